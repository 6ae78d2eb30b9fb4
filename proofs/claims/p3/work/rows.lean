section
-- ===== PART A: goes FIRST, ahead of the names: the tables' words, and 'selects' of the private methods out of them =====
/-- a private method of a class that the tables say can be made, by its rows of tables_1 -/
def lw_okq (q : MethodName × Nat) : Prop := (q.1.cls ≠ "java/lang/invoke/MethodHandle" ∧ q.1.cls ≠ "java/lang/invoke/VarHandle") ∧ Cond.instantiable q.1.cls q.2 ∈ tables_1 ∧ Cond.privateMethod q.1 ∈ tables_1 ∧ Cond.instanceMethod q.1 ∈ tables_1
theorem lw_p0 : lw_okq (⟨"RecastStage$Reader", "readRun", "()V"⟩, 11) := ⟨⟨by decide +kernel, by decide +kernel⟩, List.mem_of_getElem? (i := 35) (by decide +kernel), List.mem_of_getElem? (i := 641) (by decide +kernel), List.mem_of_getElem? (i := 642) (by decide +kernel)⟩
theorem lw_p1 : lw_okq (⟨"RecastStage$PlayReader", "readLine", "(LRecastStage$Reader;)V"⟩, 1) := ⟨⟨by decide +kernel, by decide +kernel⟩, List.mem_of_getElem? (i := 156) (by decide +kernel), List.mem_of_getElem? (i := 660) (by decide +kernel), List.mem_of_getElem? (i := 661) (by decide +kernel)⟩
theorem lw_p2 : lw_okq (⟨"RecastStage$PlayReader", "readPart", "(LRecastStage$Reader;)V"⟩, 1) := ⟨⟨by decide +kernel, by decide +kernel⟩, List.mem_of_getElem? (i := 156) (by decide +kernel), List.mem_of_getElem? (i := 668) (by decide +kernel), List.mem_of_getElem? (i := 669) (by decide +kernel)⟩
theorem lw_p3 : lw_okq (⟨"RecastStage$PlayReader", "takeNewName", "(LRecastStage$Reader;[JI)Z"⟩, 1) := ⟨⟨by decide +kernel, by decide +kernel⟩, List.mem_of_getElem? (i := 156) (by decide +kernel), List.mem_of_getElem? (i := 680) (by decide +kernel), List.mem_of_getElem? (i := 681) (by decide +kernel)⟩
theorem lw_p4 : lw_okq (⟨"RecastStage$PlayReader", "readFact", "(LRecastStage$Reader;)V"⟩, 1) := ⟨⟨by decide +kernel, by decide +kernel⟩, List.mem_of_getElem? (i := 156) (by decide +kernel), List.mem_of_getElem? (i := 698) (by decide +kernel), List.mem_of_getElem? (i := 699) (by decide +kernel)⟩
theorem lw_p5 : lw_okq (⟨"RecastStage$PlayReader", "readClears", "(LRecastStage$Reader;)V"⟩, 1) := ⟨⟨by decide +kernel, by decide +kernel⟩, List.mem_of_getElem? (i := 156) (by decide +kernel), List.mem_of_getElem? (i := 702) (by decide +kernel), List.mem_of_getElem? (i := 703) (by decide +kernel)⟩
theorem lw_p6 : lw_okq (⟨"RecastStage$PlayReader", "readMan", "(LRecastStage$Reader;)V"⟩, 1) := ⟨⟨by decide +kernel, by decide +kernel⟩, List.mem_of_getElem? (i := 156) (by decide +kernel), List.mem_of_getElem? (i := 722) (by decide +kernel), List.mem_of_getElem? (i := 723) (by decide +kernel)⟩
theorem lw_p7 : lw_okq (⟨"RecastStage$PlayReader", "readAct", "(LRecastStage$Reader;)V"⟩, 1) := ⟨⟨by decide +kernel, by decide +kernel⟩, List.mem_of_getElem? (i := 156) (by decide +kernel), List.mem_of_getElem? (i := 730) (by decide +kernel), List.mem_of_getElem? (i := 731) (by decide +kernel)⟩
theorem lw_p8 : lw_okq (⟨"RecastStage$PlayReader", "readScene", "(LRecastStage$Reader;)V"⟩, 1) := ⟨⟨by decide +kernel, by decide +kernel⟩, List.mem_of_getElem? (i := 156) (by decide +kernel), List.mem_of_getElem? (i := 734) (by decide +kernel), List.mem_of_getElem? (i := 735) (by decide +kernel)⟩
theorem lw_p9 : lw_okq (⟨"RecastStage$PlayReader", "readShows", "(LRecastStage$Reader;)V"⟩, 1) := ⟨⟨by decide +kernel, by decide +kernel⟩, List.mem_of_getElem? (i := 156) (by decide +kernel), List.mem_of_getElem? (i := 742) (by decide +kernel), List.mem_of_getElem? (i := 743) (by decide +kernel)⟩
theorem lw_p10 : lw_okq (⟨"RecastStage$PlayReader", "readNeeds", "(LRecastStage$Reader;)V"⟩, 1) := ⟨⟨by decide +kernel, by decide +kernel⟩, List.mem_of_getElem? (i := 156) (by decide +kernel), List.mem_of_getElem? (i := 746) (by decide +kernel), List.mem_of_getElem? (i := 747) (by decide +kernel)⟩
theorem lw_p11 : lw_okq (⟨"RecastStage$PlayReader", "readLikes", "(LRecastStage$Reader;)V"⟩, 1) := ⟨⟨by decide +kernel, by decide +kernel⟩, List.mem_of_getElem? (i := 156) (by decide +kernel), List.mem_of_getElem? (i := 750) (by decide +kernel), List.mem_of_getElem? (i := 751) (by decide +kernel)⟩
theorem lw_p12 : lw_okq (⟨"RecastStage$PlayReader", "readNever", "(LRecastStage$Reader;)V"⟩, 1) := ⟨⟨by decide +kernel, by decide +kernel⟩, List.mem_of_getElem? (i := 156) (by decide +kernel), List.mem_of_getElem? (i := 758) (by decide +kernel), List.mem_of_getElem? (i := 759) (by decide +kernel)⟩
theorem lw_p13 : lw_okq (⟨"RecastStage$PlayReader", "readFoes", "(LRecastStage$Reader;)V"⟩, 1) := ⟨⟨by decide +kernel, by decide +kernel⟩, List.mem_of_getElem? (i := 156) (by decide +kernel), List.mem_of_getElem? (i := 762) (by decide +kernel), List.mem_of_getElem? (i := 763) (by decide +kernel)⟩
theorem lw_p14 : lw_okq (⟨"RecastStage$PlayReader", "readRest", "(LRecastStage$Reader;)V"⟩, 1) := ⟨⟨by decide +kernel, by decide +kernel⟩, List.mem_of_getElem? (i := 156) (by decide +kernel), List.mem_of_getElem? (i := 766) (by decide +kernel), List.mem_of_getElem? (i := 767) (by decide +kernel)⟩
theorem lw_p15 : lw_okq (⟨"RecastStage$Evening", "meetsFoe", "(LRecastStage$Play;II)Z"⟩, 13) := ⟨⟨by decide +kernel, by decide +kernel⟩, List.mem_of_getElem? (i := 299) (by decide +kernel), List.mem_of_getElem? (i := 869) (by decide +kernel), List.mem_of_getElem? (i := 870) (by decide +kernel)⟩
def lw_privs_1 : List (MethodName × Nat) := [(⟨"RecastStage$Reader", "readRun", "()V"⟩, 11), (⟨"RecastStage$PlayReader", "readLine", "(LRecastStage$Reader;)V"⟩, 1), (⟨"RecastStage$PlayReader", "readPart", "(LRecastStage$Reader;)V"⟩, 1), (⟨"RecastStage$PlayReader", "takeNewName", "(LRecastStage$Reader;[JI)Z"⟩, 1), (⟨"RecastStage$PlayReader", "readFact", "(LRecastStage$Reader;)V"⟩, 1), (⟨"RecastStage$PlayReader", "readClears", "(LRecastStage$Reader;)V"⟩, 1), (⟨"RecastStage$PlayReader", "readMan", "(LRecastStage$Reader;)V"⟩, 1), (⟨"RecastStage$PlayReader", "readAct", "(LRecastStage$Reader;)V"⟩, 1), (⟨"RecastStage$PlayReader", "readScene", "(LRecastStage$Reader;)V"⟩, 1), (⟨"RecastStage$PlayReader", "readShows", "(LRecastStage$Reader;)V"⟩, 1), (⟨"RecastStage$PlayReader", "readNeeds", "(LRecastStage$Reader;)V"⟩, 1), (⟨"RecastStage$PlayReader", "readLikes", "(LRecastStage$Reader;)V"⟩, 1), (⟨"RecastStage$PlayReader", "readNever", "(LRecastStage$Reader;)V"⟩, 1), (⟨"RecastStage$PlayReader", "readFoes", "(LRecastStage$Reader;)V"⟩, 1), (⟨"RecastStage$PlayReader", "readRest", "(LRecastStage$Reader;)V"⟩, 1), (⟨"RecastStage$Evening", "meetsFoe", "(LRecastStage$Play;II)Z"⟩, 13)]
theorem lw_r1 : ∀ q ∈ lw_privs_1, lw_okq q := List.forall_mem_cons.mpr ⟨lw_p0, List.forall_mem_cons.mpr ⟨lw_p1, List.forall_mem_cons.mpr ⟨lw_p2, List.forall_mem_cons.mpr ⟨lw_p3, List.forall_mem_cons.mpr ⟨lw_p4, List.forall_mem_cons.mpr ⟨lw_p5, List.forall_mem_cons.mpr ⟨lw_p6, List.forall_mem_cons.mpr ⟨lw_p7, List.forall_mem_cons.mpr ⟨lw_p8, List.forall_mem_cons.mpr ⟨lw_p9, List.forall_mem_cons.mpr ⟨lw_p10, List.forall_mem_cons.mpr ⟨lw_p11, List.forall_mem_cons.mpr ⟨lw_p12, List.forall_mem_cons.mpr ⟨lw_p13, List.forall_mem_cons.mpr ⟨lw_p14, List.forall_mem_cons.mpr ⟨lw_p15, fun _ h => absurd h List.not_mem_nil⟩⟩⟩⟩⟩⟩⟩⟩⟩⟩⟩⟩⟩⟩⟩⟩
theorem lw_p16 : lw_okq (⟨"RecastStage$Evening", "clap", "(LRecastStage$Play;I)V"⟩, 13) := ⟨⟨by decide +kernel, by decide +kernel⟩, List.mem_of_getElem? (i := 299) (by decide +kernel), List.mem_of_getElem? (i := 907) (by decide +kernel), List.mem_of_getElem? (i := 908) (by decide +kernel)⟩
theorem lw_p17 : lw_okq (⟨"RecastStage$Evening", "learn", "(LRecastStage$Play;I)V"⟩, 13) := ⟨⟨by decide +kernel, by decide +kernel⟩, List.mem_of_getElem? (i := 299) (by decide +kernel), List.mem_of_getElem? (i := 912) (by decide +kernel), List.mem_of_getElem? (i := 913) (by decide +kernel)⟩
theorem lw_p18 : lw_okq (⟨"RecastStage$Casting", "findCheapest", "()Z"⟩, 13) := ⟨⟨by decide +kernel, by decide +kernel⟩, List.mem_of_getElem? (i := 416) (by decide +kernel), List.mem_of_getElem? (i := 973) (by decide +kernel), List.mem_of_getElem? (i := 974) (by decide +kernel)⟩
theorem lw_p19 : lw_okq (⟨"RecastStage$Casting", "cheapestAt", "(I)I"⟩, 13) := ⟨⟨by decide +kernel, by decide +kernel⟩, List.mem_of_getElem? (i := 416) (by decide +kernel), List.mem_of_getElem? (i := 977) (by decide +kernel), List.mem_of_getElem? (i := 978) (by decide +kernel)⟩
theorem lw_p20 : lw_okq (⟨"RecastStage$Casting", "seekCheapest", "(III)V"⟩, 13) := ⟨⟨by decide +kernel, by decide +kernel⟩, List.mem_of_getElem? (i := 416) (by decide +kernel), List.mem_of_getElem? (i := 985) (by decide +kernel), List.mem_of_getElem? (i := 986) (by decide +kernel)⟩
theorem lw_p21 : lw_okq (⟨"RecastStage$Casting", "freeMen", "(II)I"⟩, 13) := ⟨⟨by decide +kernel, by decide +kernel⟩, List.mem_of_getElem? (i := 416) (by decide +kernel), List.mem_of_getElem? (i := 989) (by decide +kernel), List.mem_of_getElem? (i := 990) (by decide +kernel)⟩
theorem lw_p22 : lw_okq (⟨"RecastStage$Casting", "seekAll", "(II)V"⟩, 13) := ⟨⟨by decide +kernel, by decide +kernel⟩, List.mem_of_getElem? (i := 416) (by decide +kernel), List.mem_of_getElem? (i := 1019) (by decide +kernel), List.mem_of_getElem? (i := 1020) (by decide +kernel)⟩
theorem lw_p23 : lw_okq (⟨"RecastStage$Casting", "addLast", "(II)V"⟩, 13) := ⟨⟨by decide +kernel, by decide +kernel⟩, List.mem_of_getElem? (i := 416) (by decide +kernel), List.mem_of_getElem? (i := 1023) (by decide +kernel), List.mem_of_getElem? (i := 1024) (by decide +kernel)⟩
theorem lw_p24 : lw_okq (⟨"RecastStage$Casting", "ableForAny", "(I)I"⟩, 13) := ⟨⟨by decide +kernel, by decide +kernel⟩, List.mem_of_getElem? (i := 416) (by decide +kernel), List.mem_of_getElem? (i := 1051) (by decide +kernel), List.mem_of_getElem? (i := 1052) (by decide +kernel)⟩
theorem lw_p25 : lw_okq (⟨"RecastStage$Casting", "partsAt", "(I)I"⟩, 13) := ⟨⟨by decide +kernel, by decide +kernel⟩, List.mem_of_getElem? (i := 416) (by decide +kernel), List.mem_of_getElem? (i := 1055) (by decide +kernel), List.mem_of_getElem? (i := 1056) (by decide +kernel)⟩
theorem lw_p26 : lw_okq (⟨"RecastStage$Market", "wishOf", "(ILRecastStage$Play;LRecastStage$Casting;)I"⟩, 3) := ⟨⟨by decide +kernel, by decide +kernel⟩, List.mem_of_getElem? (i := 467) (by decide +kernel), List.mem_of_getElem? (i := 1114) (by decide +kernel), List.mem_of_getElem? (i := 1115) (by decide +kernel)⟩
theorem lw_p27 : lw_okq (⟨"RecastStage$Market", "raise", "(LRecastStage$Play;)Z"⟩, 3) := ⟨⟨by decide +kernel, by decide +kernel⟩, List.mem_of_getElem? (i := 467) (by decide +kernel), List.mem_of_getElem? (i := 1120) (by decide +kernel), List.mem_of_getElem? (i := 1121) (by decide +kernel)⟩
theorem lw_p28 : lw_okq (⟨"RecastStage", "goOnByBest", "()V"⟩, 14) := ⟨⟨by decide +kernel, by decide +kernel⟩, List.mem_of_getElem? (i := 27) (by decide +kernel), List.mem_of_getElem? (i := 1136) (by decide +kernel), List.mem_of_getElem? (i := 1137) (by decide +kernel)⟩
theorem lw_p29 : lw_okq (⟨"RecastStage", "playBest", "(LRecastStage$Evening;)Z"⟩, 14) := ⟨⟨by decide +kernel, by decide +kernel⟩, List.mem_of_getElem? (i := 27) (by decide +kernel), List.mem_of_getElem? (i := 1141) (by decide +kernel), List.mem_of_getElem? (i := 1142) (by decide +kernel)⟩
theorem lw_p30 : lw_okq (⟨"RecastStage", "firstWithMost", "([II)I"⟩, 14) := ⟨⟨by decide +kernel, by decide +kernel⟩, List.mem_of_getElem? (i := 27) (by decide +kernel), List.mem_of_getElem? (i := 1153) (by decide +kernel), List.mem_of_getElem? (i := 1154) (by decide +kernel)⟩
theorem lw_p31 : lw_okq (⟨"RecastStage", "playDrawn", "(LRecastStage$Evening;I)V"⟩, 14) := ⟨⟨by decide +kernel, by decide +kernel⟩, List.mem_of_getElem? (i := 27) (by decide +kernel), List.mem_of_getElem? (i := 1161) (by decide +kernel), List.mem_of_getElem? (i := 1162) (by decide +kernel)⟩
def lw_privs_2 : List (MethodName × Nat) := [(⟨"RecastStage$Evening", "clap", "(LRecastStage$Play;I)V"⟩, 13), (⟨"RecastStage$Evening", "learn", "(LRecastStage$Play;I)V"⟩, 13), (⟨"RecastStage$Casting", "findCheapest", "()Z"⟩, 13), (⟨"RecastStage$Casting", "cheapestAt", "(I)I"⟩, 13), (⟨"RecastStage$Casting", "seekCheapest", "(III)V"⟩, 13), (⟨"RecastStage$Casting", "freeMen", "(II)I"⟩, 13), (⟨"RecastStage$Casting", "seekAll", "(II)V"⟩, 13), (⟨"RecastStage$Casting", "addLast", "(II)V"⟩, 13), (⟨"RecastStage$Casting", "ableForAny", "(I)I"⟩, 13), (⟨"RecastStage$Casting", "partsAt", "(I)I"⟩, 13), (⟨"RecastStage$Market", "wishOf", "(ILRecastStage$Play;LRecastStage$Casting;)I"⟩, 3), (⟨"RecastStage$Market", "raise", "(LRecastStage$Play;)Z"⟩, 3), (⟨"RecastStage", "goOnByBest", "()V"⟩, 14), (⟨"RecastStage", "playBest", "(LRecastStage$Evening;)Z"⟩, 14), (⟨"RecastStage", "firstWithMost", "([II)I"⟩, 14), (⟨"RecastStage", "playDrawn", "(LRecastStage$Evening;I)V"⟩, 14)]
theorem lw_r2 : ∀ q ∈ lw_privs_2, lw_okq q := List.forall_mem_cons.mpr ⟨lw_p16, List.forall_mem_cons.mpr ⟨lw_p17, List.forall_mem_cons.mpr ⟨lw_p18, List.forall_mem_cons.mpr ⟨lw_p19, List.forall_mem_cons.mpr ⟨lw_p20, List.forall_mem_cons.mpr ⟨lw_p21, List.forall_mem_cons.mpr ⟨lw_p22, List.forall_mem_cons.mpr ⟨lw_p23, List.forall_mem_cons.mpr ⟨lw_p24, List.forall_mem_cons.mpr ⟨lw_p25, List.forall_mem_cons.mpr ⟨lw_p26, List.forall_mem_cons.mpr ⟨lw_p27, List.forall_mem_cons.mpr ⟨lw_p28, List.forall_mem_cons.mpr ⟨lw_p29, List.forall_mem_cons.mpr ⟨lw_p30, List.forall_mem_cons.mpr ⟨lw_p31, fun _ h => absurd h List.not_mem_nil⟩⟩⟩⟩⟩⟩⟩⟩⟩⟩⟩⟩⟩⟩⟩⟩
theorem lw_p32 : lw_okq (⟨"RecastStage$Book", "readLine", "(LRecastStage$Reader;LRecastStage$Play;)V"⟩, 9) := ⟨⟨by decide +kernel, by decide +kernel⟩, List.mem_of_getElem? (i := 486) (by decide +kernel), List.mem_of_getElem? (i := 1179) (by decide +kernel), List.mem_of_getElem? (i := 1180) (by decide +kernel)⟩
theorem lw_p33 : lw_okq (⟨"RecastStage$Book", "whyWrong", "(ILRecastStage$Play;LRecastStage$Evening;LRecastStage$Casting;)I"⟩, 9) := ⟨⟨by decide +kernel, by decide +kernel⟩, List.mem_of_getElem? (i := 486) (by decide +kernel), List.mem_of_getElem? (i := 1206) (by decide +kernel), List.mem_of_getElem? (i := 1207) (by decide +kernel)⟩
theorem lw_p34 : lw_okq (⟨"RecastStage$Sentence", "readCond", "(LRecastStage$Reader;LRecastStage$Play;I)V"⟩, 6) := ⟨⟨by decide +kernel, by decide +kernel⟩, List.mem_of_getElem? (i := 390) (by decide +kernel), List.mem_of_getElem? (i := 1234) (by decide +kernel), List.mem_of_getElem? (i := 1235) (by decide +kernel)⟩
theorem lw_p35 : lw_okq (⟨"RecastStage$Sentence", "readAll", "(LRecastStage$Reader;LRecastStage$Play;I)V"⟩, 6) := ⟨⟨by decide +kernel, by decide +kernel⟩, List.mem_of_getElem? (i := 390) (by decide +kernel), List.mem_of_getElem? (i := 1238) (by decide +kernel), List.mem_of_getElem? (i := 1239) (by decide +kernel)⟩
theorem lw_p36 : lw_okq (⟨"RecastStage$Sentence", "readOne", "(LRecastStage$Reader;LRecastStage$Play;I)V"⟩, 6) := ⟨⟨by decide +kernel, by decide +kernel⟩, List.mem_of_getElem? (i := 390) (by decide +kernel), List.mem_of_getElem? (i := 1242) (by decide +kernel), List.mem_of_getElem? (i := 1243) (by decide +kernel)⟩
theorem lw_p37 : lw_okq (⟨"RecastStage$Sentence", "addStep", "(III)V"⟩, 6) := ⟨⟨by decide +kernel, by decide +kernel⟩, List.mem_of_getElem? (i := 390) (by decide +kernel), List.mem_of_getElem? (i := 1252) (by decide +kernel), List.mem_of_getElem? (i := 1253) (by decide +kernel)⟩
theorem lw_p38 : lw_okq (⟨"RecastStage$Sentence", "readPlainOne", "(LRecastStage$Reader;LRecastStage$Play;I)V"⟩, 6) := ⟨⟨by decide +kernel, by decide +kernel⟩, List.mem_of_getElem? (i := 390) (by decide +kernel), List.mem_of_getElem? (i := 1256) (by decide +kernel), List.mem_of_getElem? (i := 1257) (by decide +kernel)⟩
theorem lw_p39 : lw_okq (⟨"RecastStage$Sentence", "menOfOne", "(ILRecastStage$Play;LRecastStage$Evening;)I"⟩, 6) := ⟨⟨by decide +kernel, by decide +kernel⟩, List.mem_of_getElem? (i := 390) (by decide +kernel), List.mem_of_getElem? (i := 1277) (by decide +kernel), List.mem_of_getElem? (i := 1278) (by decide +kernel)⟩
theorem lw_p40 : lw_okq (⟨"RecastStage$Sentence", "holdsFor", "(IILRecastStage$Play;LRecastStage$Evening;)Z"⟩, 6) := ⟨⟨by decide +kernel, by decide +kernel⟩, List.mem_of_getElem? (i := 390) (by decide +kernel), List.mem_of_getElem? (i := 1283) (by decide +kernel), List.mem_of_getElem? (i := 1284) (by decide +kernel)⟩
theorem lw_p41 : lw_okq (⟨"RecastStage$Sentence", "compares", "(II)Z"⟩, 6) := ⟨⟨by decide +kernel, by decide +kernel⟩, List.mem_of_getElem? (i := 390) (by decide +kernel), List.mem_of_getElem? (i := 1288) (by decide +kernel), List.mem_of_getElem? (i := 1289) (by decide +kernel)⟩
theorem lw_p42 : lw_okq (⟨"java/lang/Throwable", "fillInStackTrace", "(I)Ljava/lang/Throwable;"⟩, 6) := ⟨⟨by decide +kernel, by decide +kernel⟩, List.mem_of_getElem? (i := 1349) (by decide +kernel), List.mem_of_getElem? (i := 1347) (by decide +kernel), List.mem_of_getElem? (i := 1348) (by decide +kernel)⟩
theorem lw_p43 : lw_okq (⟨"RecastStageModel", "four", "(I)V"⟩, 54) := ⟨⟨by decide +kernel, by decide +kernel⟩, List.mem_of_getElem? (i := 1381) (by decide +kernel), List.mem_of_getElem? (i := 1379) (by decide +kernel), List.mem_of_getElem? (i := 1380) (by decide +kernel)⟩
theorem lw_p44 : lw_okq (⟨"RecastStageModel", "taken", "(I)V"⟩, 54) := ⟨⟨by decide +kernel, by decide +kernel⟩, List.mem_of_getElem? (i := 1381) (by decide +kernel), List.mem_of_getElem? (i := 1588) (by decide +kernel), List.mem_of_getElem? (i := 1589) (by decide +kernel)⟩
theorem lw_p45 : lw_okq (⟨"RecastStageModel", "go", "()V"⟩, 54) := ⟨⟨by decide +kernel, by decide +kernel⟩, List.mem_of_getElem? (i := 1381) (by decide +kernel), List.mem_of_getElem? (i := 1592) (by decide +kernel), List.mem_of_getElem? (i := 1593) (by decide +kernel)⟩
theorem lw_p46 : lw_okq (⟨"RecastStageModel", "peek", "()I"⟩, 54) := ⟨⟨by decide +kernel, by decide +kernel⟩, List.mem_of_getElem? (i := 1381) (by decide +kernel), List.mem_of_getElem? (i := 1596) (by decide +kernel), List.mem_of_getElem? (i := 1597) (by decide +kernel)⟩
theorem lw_p47 : lw_okq (⟨"RecastStageModel", "line", "()Z"⟩, 54) := ⟨⟨by decide +kernel, by decide +kernel⟩, List.mem_of_getElem? (i := 1381) (by decide +kernel), List.mem_of_getElem? (i := 1606) (by decide +kernel), List.mem_of_getElem? (i := 1607) (by decide +kernel)⟩
def lw_privs_3 : List (MethodName × Nat) := [(⟨"RecastStage$Book", "readLine", "(LRecastStage$Reader;LRecastStage$Play;)V"⟩, 9), (⟨"RecastStage$Book", "whyWrong", "(ILRecastStage$Play;LRecastStage$Evening;LRecastStage$Casting;)I"⟩, 9), (⟨"RecastStage$Sentence", "readCond", "(LRecastStage$Reader;LRecastStage$Play;I)V"⟩, 6), (⟨"RecastStage$Sentence", "readAll", "(LRecastStage$Reader;LRecastStage$Play;I)V"⟩, 6), (⟨"RecastStage$Sentence", "readOne", "(LRecastStage$Reader;LRecastStage$Play;I)V"⟩, 6), (⟨"RecastStage$Sentence", "addStep", "(III)V"⟩, 6), (⟨"RecastStage$Sentence", "readPlainOne", "(LRecastStage$Reader;LRecastStage$Play;I)V"⟩, 6), (⟨"RecastStage$Sentence", "menOfOne", "(ILRecastStage$Play;LRecastStage$Evening;)I"⟩, 6), (⟨"RecastStage$Sentence", "holdsFor", "(IILRecastStage$Play;LRecastStage$Evening;)Z"⟩, 6), (⟨"RecastStage$Sentence", "compares", "(II)Z"⟩, 6), (⟨"java/lang/Throwable", "fillInStackTrace", "(I)Ljava/lang/Throwable;"⟩, 6), (⟨"RecastStageModel", "four", "(I)V"⟩, 54), (⟨"RecastStageModel", "taken", "(I)V"⟩, 54), (⟨"RecastStageModel", "go", "()V"⟩, 54), (⟨"RecastStageModel", "peek", "()I"⟩, 54), (⟨"RecastStageModel", "line", "()Z"⟩, 54)]
theorem lw_r3 : ∀ q ∈ lw_privs_3, lw_okq q := List.forall_mem_cons.mpr ⟨lw_p32, List.forall_mem_cons.mpr ⟨lw_p33, List.forall_mem_cons.mpr ⟨lw_p34, List.forall_mem_cons.mpr ⟨lw_p35, List.forall_mem_cons.mpr ⟨lw_p36, List.forall_mem_cons.mpr ⟨lw_p37, List.forall_mem_cons.mpr ⟨lw_p38, List.forall_mem_cons.mpr ⟨lw_p39, List.forall_mem_cons.mpr ⟨lw_p40, List.forall_mem_cons.mpr ⟨lw_p41, List.forall_mem_cons.mpr ⟨lw_p42, List.forall_mem_cons.mpr ⟨lw_p43, List.forall_mem_cons.mpr ⟨lw_p44, List.forall_mem_cons.mpr ⟨lw_p45, List.forall_mem_cons.mpr ⟨lw_p46, List.forall_mem_cons.mpr ⟨lw_p47, fun _ h => absurd h List.not_mem_nil⟩⟩⟩⟩⟩⟩⟩⟩⟩⟩⟩⟩⟩⟩⟩⟩
theorem lw_p48 : lw_okq (⟨"RecastStageModel", "isWord", "(J)Z"⟩, 54) := ⟨⟨by decide +kernel, by decide +kernel⟩, List.mem_of_getElem? (i := 1381) (by decide +kernel), List.mem_of_getElem? (i := 1610) (by decide +kernel), List.mem_of_getElem? (i := 1611) (by decide +kernel)⟩
theorem lw_p49 : lw_okq (⟨"RecastStageModel", "bad", "(I)Z"⟩, 54) := ⟨⟨by decide +kernel, by decide +kernel⟩, List.mem_of_getElem? (i := 1381) (by decide +kernel), List.mem_of_getElem? (i := 1614) (by decide +kernel), List.mem_of_getElem? (i := 1615) (by decide +kernel)⟩
theorem lw_p50 : lw_okq (⟨"RecastStageModel", "fresh", "(I)Z"⟩, 54) := ⟨⟨by decide +kernel, by decide +kernel⟩, List.mem_of_getElem? (i := 1381) (by decide +kernel), List.mem_of_getElem? (i := 1618) (by decide +kernel), List.mem_of_getElem? (i := 1619) (by decide +kernel)⟩
theorem lw_p51 : lw_okq (⟨"RecastStageModel", "isName", "()Z"⟩, 54) := ⟨⟨by decide +kernel, by decide +kernel⟩, List.mem_of_getElem? (i := 1381) (by decide +kernel), List.mem_of_getElem? (i := 1622) (by decide +kernel), List.mem_of_getElem? (i := 1623) (by decide +kernel)⟩
theorem lw_p52 : lw_okq (⟨"RecastStageModel", "find", "(II)I"⟩, 54) := ⟨⟨by decide +kernel, by decide +kernel⟩, List.mem_of_getElem? (i := 1381) (by decide +kernel), List.mem_of_getElem? (i := 1626) (by decide +kernel), List.mem_of_getElem? (i := 1627) (by decide +kernel)⟩
theorem lw_p53 : lw_okq (⟨"RecastStageModel", "takes", "(II)Z"⟩, 54) := ⟨⟨by decide +kernel, by decide +kernel⟩, List.mem_of_getElem? (i := 1381) (by decide +kernel), List.mem_of_getElem? (i := 1630) (by decide +kernel), List.mem_of_getElem? (i := 1631) (by decide +kernel)⟩
theorem lw_p54 : lw_okq (⟨"RecastStageModel", "readScene", "()Z"⟩, 54) := ⟨⟨by decide +kernel, by decide +kernel⟩, List.mem_of_getElem? (i := 1381) (by decide +kernel), List.mem_of_getElem? (i := 1637) (by decide +kernel), List.mem_of_getElem? (i := 1638) (by decide +kernel)⟩
theorem lw_p55 : lw_okq (⟨"RecastStageModel", "isSign", "(I)Z"⟩, 54) := ⟨⟨by decide +kernel, by decide +kernel⟩, List.mem_of_getElem? (i := 1381) (by decide +kernel), List.mem_of_getElem? (i := 1641) (by decide +kernel), List.mem_of_getElem? (i := 1642) (by decide +kernel)⟩
theorem lw_p56 : lw_okq (⟨"RecastStageModel", "looksAt", "(II)Z"⟩, 54) := ⟨⟨by decide +kernel, by decide +kernel⟩, List.mem_of_getElem? (i := 1381) (by decide +kernel), List.mem_of_getElem? (i := 1645) (by decide +kernel), List.mem_of_getElem? (i := 1646) (by decide +kernel)⟩
theorem lw_p57 : lw_okq (⟨"RecastStageModel", "sets", "(I)Z"⟩, 54) := ⟨⟨by decide +kernel, by decide +kernel⟩, List.mem_of_getElem? (i := 1381) (by decide +kernel), List.mem_of_getElem? (i := 1649) (by decide +kernel), List.mem_of_getElem? (i := 1650) (by decide +kernel)⟩
theorem lw_p58 : lw_okq (⟨"RecastStageModel", "pairs", "()Z"⟩, 54) := ⟨⟨by decide +kernel, by decide +kernel⟩, List.mem_of_getElem? (i := 1381) (by decide +kernel), List.mem_of_getElem? (i := 1656) (by decide +kernel), List.mem_of_getElem? (i := 1657) (by decide +kernel)⟩
theorem lw_p59 : lw_okq (⟨"RecastStageModel", "takesName", "(II)Z"⟩, 54) := ⟨⟨by decide +kernel, by decide +kernel⟩, List.mem_of_getElem? (i := 1381) (by decide +kernel), List.mem_of_getElem? (i := 1660) (by decide +kernel), List.mem_of_getElem? (i := 1661) (by decide +kernel)⟩
theorem lw_p60 : lw_okq (⟨"RecastStageModel", "sign", "(I)Z"⟩, 54) := ⟨⟨by decide +kernel, by decide +kernel⟩, List.mem_of_getElem? (i := 1381) (by decide +kernel), List.mem_of_getElem? (i := 1664) (by decide +kernel), List.mem_of_getElem? (i := 1665) (by decide +kernel)⟩
theorem lw_p61 : lw_okq (⟨"RecastStageModel", "isPart", "(I)Z"⟩, 54) := ⟨⟨by decide +kernel, by decide +kernel⟩, List.mem_of_getElem? (i := 1381) (by decide +kernel), List.mem_of_getElem? (i := 1676) (by decide +kernel), List.mem_of_getElem? (i := 1677) (by decide +kernel)⟩
theorem lw_p62 : lw_okq (⟨"RecastStageModel", "partsOf", "(I)I"⟩, 54) := ⟨⟨by decide +kernel, by decide +kernel⟩, List.mem_of_getElem? (i := 1381) (by decide +kernel), List.mem_of_getElem? (i := 1680) (by decide +kernel), List.mem_of_getElem? (i := 1681) (by decide +kernel)⟩
theorem lw_p63 : lw_okq (⟨"RecastStageModel", "castAs", "(I)I"⟩, 54) := ⟨⟨by decide +kernel, by decide +kernel⟩, List.mem_of_getElem? (i := 1381) (by decide +kernel), List.mem_of_getElem? (i := 1684) (by decide +kernel), List.mem_of_getElem? (i := 1685) (by decide +kernel)⟩
def lw_privs_4 : List (MethodName × Nat) := [(⟨"RecastStageModel", "isWord", "(J)Z"⟩, 54), (⟨"RecastStageModel", "bad", "(I)Z"⟩, 54), (⟨"RecastStageModel", "fresh", "(I)Z"⟩, 54), (⟨"RecastStageModel", "isName", "()Z"⟩, 54), (⟨"RecastStageModel", "find", "(II)I"⟩, 54), (⟨"RecastStageModel", "takes", "(II)Z"⟩, 54), (⟨"RecastStageModel", "readScene", "()Z"⟩, 54), (⟨"RecastStageModel", "isSign", "(I)Z"⟩, 54), (⟨"RecastStageModel", "looksAt", "(II)Z"⟩, 54), (⟨"RecastStageModel", "sets", "(I)Z"⟩, 54), (⟨"RecastStageModel", "pairs", "()Z"⟩, 54), (⟨"RecastStageModel", "takesName", "(II)Z"⟩, 54), (⟨"RecastStageModel", "sign", "(I)Z"⟩, 54), (⟨"RecastStageModel", "isPart", "(I)Z"⟩, 54), (⟨"RecastStageModel", "partsOf", "(I)I"⟩, 54), (⟨"RecastStageModel", "castAs", "(I)I"⟩, 54)]
theorem lw_r4 : ∀ q ∈ lw_privs_4, lw_okq q := List.forall_mem_cons.mpr ⟨lw_p48, List.forall_mem_cons.mpr ⟨lw_p49, List.forall_mem_cons.mpr ⟨lw_p50, List.forall_mem_cons.mpr ⟨lw_p51, List.forall_mem_cons.mpr ⟨lw_p52, List.forall_mem_cons.mpr ⟨lw_p53, List.forall_mem_cons.mpr ⟨lw_p54, List.forall_mem_cons.mpr ⟨lw_p55, List.forall_mem_cons.mpr ⟨lw_p56, List.forall_mem_cons.mpr ⟨lw_p57, List.forall_mem_cons.mpr ⟨lw_p58, List.forall_mem_cons.mpr ⟨lw_p59, List.forall_mem_cons.mpr ⟨lw_p60, List.forall_mem_cons.mpr ⟨lw_p61, List.forall_mem_cons.mpr ⟨lw_p62, List.forall_mem_cons.mpr ⟨lw_p63, fun _ h => absurd h List.not_mem_nil⟩⟩⟩⟩⟩⟩⟩⟩⟩⟩⟩⟩⟩⟩⟩⟩
theorem lw_p64 : lw_okq (⟨"RecastStageModel", "isMan", "(I)Z"⟩, 54) := ⟨⟨by decide +kernel, by decide +kernel⟩, List.mem_of_getElem? (i := 1381) (by decide +kernel), List.mem_of_getElem? (i := 1692) (by decide +kernel), List.mem_of_getElem? (i := 1693) (by decide +kernel)⟩
theorem lw_p65 : lw_okq (⟨"RecastStageModel", "throwsIf", "(Z)Z"⟩, 54) := ⟨⟨by decide +kernel, by decide +kernel⟩, List.mem_of_getElem? (i := 1381) (by decide +kernel), List.mem_of_getElem? (i := 1696) (by decide +kernel), List.mem_of_getElem? (i := 1697) (by decide +kernel)⟩
theorem lw_p66 : lw_okq (⟨"RecastStageModel", "factsOf", "(I)I"⟩, 54) := ⟨⟨by decide +kernel, by decide +kernel⟩, List.mem_of_getElem? (i := 1381) (by decide +kernel), List.mem_of_getElem? (i := 1704) (by decide +kernel), List.mem_of_getElem? (i := 1705) (by decide +kernel)⟩
theorem lw_p67 : lw_okq (⟨"RecastStageModel", "castNow", "()I"⟩, 54) := ⟨⟨by decide +kernel, by decide +kernel⟩, List.mem_of_getElem? (i := 1381) (by decide +kernel), List.mem_of_getElem? (i := 1716) (by decide +kernel), List.mem_of_getElem? (i := 1717) (by decide +kernel)⟩
theorem lw_p68 : lw_okq (⟨"RecastStageModel", "whyOf", "(II)I"⟩, 54) := ⟨⟨by decide +kernel, by decide +kernel⟩, List.mem_of_getElem? (i := 1381) (by decide +kernel), List.mem_of_getElem? (i := 1724) (by decide +kernel), List.mem_of_getElem? (i := 1725) (by decide +kernel)⟩
theorem lw_p69 : lw_okq (⟨"RecastStageModel", "whyAlone", "(II)I"⟩, 54) := ⟨⟨by decide +kernel, by decide +kernel⟩, List.mem_of_getElem? (i := 1381) (by decide +kernel), List.mem_of_getElem? (i := 1728) (by decide +kernel), List.mem_of_getElem? (i := 1729) (by decide +kernel)⟩
theorem lw_p70 : lw_okq (⟨"RecastStageModel", "isOver", "()Z"⟩, 54) := ⟨⟨by decide +kernel, by decide +kernel⟩, List.mem_of_getElem? (i := 1381) (by decide +kernel), List.mem_of_getElem? (i := 1732) (by decide +kernel), List.mem_of_getElem? (i := 1733) (by decide +kernel)⟩
theorem lw_p71 : lw_okq (⟨"RecastStageModel", "lacking", "(II)I"⟩, 54) := ⟨⟨by decide +kernel, by decide +kernel⟩, List.mem_of_getElem? (i := 1381) (by decide +kernel), List.mem_of_getElem? (i := 1736) (by decide +kernel), List.mem_of_getElem? (i := 1737) (by decide +kernel)⟩
theorem lw_p72 : lw_okq (⟨"RecastStageModel", "areTogether", "(II)Z"⟩, 54) := ⟨⟨by decide +kernel, by decide +kernel⟩, List.mem_of_getElem? (i := 1381) (by decide +kernel), List.mem_of_getElem? (i := 1740) (by decide +kernel), List.mem_of_getElem? (i := 1741) (by decide +kernel)⟩
theorem lw_p73 : lw_okq (⟨"RecastStageModel", "keep", "()V"⟩, 54) := ⟨⟨by decide +kernel, by decide +kernel⟩, List.mem_of_getElem? (i := 1381) (by decide +kernel), List.mem_of_getElem? (i := 1748) (by decide +kernel), List.mem_of_getElem? (i := 1749) (by decide +kernel)⟩
theorem lw_p74 : lw_okq (⟨"RecastStageModel", "canRise", "()Z"⟩, 54) := ⟨⟨by decide +kernel, by decide +kernel⟩, List.mem_of_getElem? (i := 1381) (by decide +kernel), List.mem_of_getElem? (i := 1760) (by decide +kernel), List.mem_of_getElem? (i := 1761) (by decide +kernel)⟩
theorem lw_p75 : lw_okq (⟨"RecastStageModel", "rises", "()V"⟩, 54) := ⟨⟨by decide +kernel, by decide +kernel⟩, List.mem_of_getElem? (i := 1381) (by decide +kernel), List.mem_of_getElem? (i := 1764) (by decide +kernel), List.mem_of_getElem? (i := 1765) (by decide +kernel)⟩
theorem lw_p76 : lw_okq (⟨"RecastStageModel", "clapsFor", "(I)I"⟩, 54) := ⟨⟨by decide +kernel, by decide +kernel⟩, List.mem_of_getElem? (i := 1381) (by decide +kernel), List.mem_of_getElem? (i := 1768) (by decide +kernel), List.mem_of_getElem? (i := 1769) (by decide +kernel)⟩
theorem lw_p77 : lw_okq (⟨"RecastStageModel", "plays", "(II)V"⟩, 54) := ⟨⟨by decide +kernel, by decide +kernel⟩, List.mem_of_getElem? (i := 1381) (by decide +kernel), List.mem_of_getElem? (i := 1772) (by decide +kernel), List.mem_of_getElem? (i := 1773) (by decide +kernel)⟩
theorem lw_p78 : lw_okq (⟨"RecastStageModel", "drops", "()V"⟩, 54) := ⟨⟨by decide +kernel, by decide +kernel⟩, List.mem_of_getElem? (i := 1381) (by decide +kernel), List.mem_of_getElem? (i := 1779) (by decide +kernel), List.mem_of_getElem? (i := 1780) (by decide +kernel)⟩
theorem lw_p79 : lw_okq (⟨"RecastStageModel", "canWhisper", "(II)Z"⟩, 54) := ⟨⟨by decide +kernel, by decide +kernel⟩, List.mem_of_getElem? (i := 1381) (by decide +kernel), List.mem_of_getElem? (i := 1787) (by decide +kernel), List.mem_of_getElem? (i := 1788) (by decide +kernel)⟩
def lw_privs_5 : List (MethodName × Nat) := [(⟨"RecastStageModel", "isMan", "(I)Z"⟩, 54), (⟨"RecastStageModel", "throwsIf", "(Z)Z"⟩, 54), (⟨"RecastStageModel", "factsOf", "(I)I"⟩, 54), (⟨"RecastStageModel", "castNow", "()I"⟩, 54), (⟨"RecastStageModel", "whyOf", "(II)I"⟩, 54), (⟨"RecastStageModel", "whyAlone", "(II)I"⟩, 54), (⟨"RecastStageModel", "isOver", "()Z"⟩, 54), (⟨"RecastStageModel", "lacking", "(II)I"⟩, 54), (⟨"RecastStageModel", "areTogether", "(II)Z"⟩, 54), (⟨"RecastStageModel", "keep", "()V"⟩, 54), (⟨"RecastStageModel", "canRise", "()Z"⟩, 54), (⟨"RecastStageModel", "rises", "()V"⟩, 54), (⟨"RecastStageModel", "clapsFor", "(I)I"⟩, 54), (⟨"RecastStageModel", "plays", "(II)V"⟩, 54), (⟨"RecastStageModel", "drops", "()V"⟩, 54), (⟨"RecastStageModel", "canWhisper", "(II)Z"⟩, 54)]
theorem lw_r5 : ∀ q ∈ lw_privs_5, lw_okq q := List.forall_mem_cons.mpr ⟨lw_p64, List.forall_mem_cons.mpr ⟨lw_p65, List.forall_mem_cons.mpr ⟨lw_p66, List.forall_mem_cons.mpr ⟨lw_p67, List.forall_mem_cons.mpr ⟨lw_p68, List.forall_mem_cons.mpr ⟨lw_p69, List.forall_mem_cons.mpr ⟨lw_p70, List.forall_mem_cons.mpr ⟨lw_p71, List.forall_mem_cons.mpr ⟨lw_p72, List.forall_mem_cons.mpr ⟨lw_p73, List.forall_mem_cons.mpr ⟨lw_p74, List.forall_mem_cons.mpr ⟨lw_p75, List.forall_mem_cons.mpr ⟨lw_p76, List.forall_mem_cons.mpr ⟨lw_p77, List.forall_mem_cons.mpr ⟨lw_p78, List.forall_mem_cons.mpr ⟨lw_p79, fun _ h => absurd h List.not_mem_nil⟩⟩⟩⟩⟩⟩⟩⟩⟩⟩⟩⟩⟩⟩⟩⟩
theorem lw_p80 : lw_okq (⟨"RecastStageModel", "whispers", "(II)V"⟩, 54) := ⟨⟨by decide +kernel, by decide +kernel⟩, List.mem_of_getElem? (i := 1381) (by decide +kernel), List.mem_of_getElem? (i := 1791) (by decide +kernel), List.mem_of_getElem? (i := 1792) (by decide +kernel)⟩
theorem lw_p81 : lw_okq (⟨"RecastStageModel", "castsBy", "(ZI)V"⟩, 54) := ⟨⟨by decide +kernel, by decide +kernel⟩, List.mem_of_getElem? (i := 1381) (by decide +kernel), List.mem_of_getElem? (i := 1803) (by decide +kernel), List.mem_of_getElem? (i := 1804) (by decide +kernel)⟩
theorem lw_p82 : lw_okq (⟨"RecastStageModel", "counts", "(II)V"⟩, 54) := ⟨⟨by decide +kernel, by decide +kernel⟩, List.mem_of_getElem? (i := 1381) (by decide +kernel), List.mem_of_getElem? (i := 1807) (by decide +kernel), List.mem_of_getElem? (i := 1808) (by decide +kernel)⟩
theorem lw_p83 : lw_okq (⟨"RecastStageModel", "fits", "(IZ)Z"⟩, 54) := ⟨⟨by decide +kernel, by decide +kernel⟩, List.mem_of_getElem? (i := 1381) (by decide +kernel), List.mem_of_getElem? (i := 1814) (by decide +kernel), List.mem_of_getElem? (i := 1815) (by decide +kernel)⟩
theorem lw_p84 : lw_okq (⟨"RecastStageModel", "canAlone", "(II)Z"⟩, 54) := ⟨⟨by decide +kernel, by decide +kernel⟩, List.mem_of_getElem? (i := 1381) (by decide +kernel), List.mem_of_getElem? (i := 1818) (by decide +kernel), List.mem_of_getElem? (i := 1819) (by decide +kernel)⟩
theorem lw_p85 : lw_okq (⟨"RecastStageModel", "suspectsBy", "(I)I"⟩, 54) := ⟨⟨by decide +kernel, by decide +kernel⟩, List.mem_of_getElem? (i := 1381) (by decide +kernel), List.mem_of_getElem? (i := 1854) (by decide +kernel), List.mem_of_getElem? (i := 1855) (by decide +kernel)⟩
theorem lw_p86 : lw_okq (⟨"RecastStageModel", "isSure", "(I)Z"⟩, 54) := ⟨⟨by decide +kernel, by decide +kernel⟩, List.mem_of_getElem? (i := 1381) (by decide +kernel), List.mem_of_getElem? (i := 1862) (by decide +kernel), List.mem_of_getElem? (i := 1863) (by decide +kernel)⟩
theorem lw_p87 : lw_okq (⟨"RecastStageModel", "wantOf", "(I)I"⟩, 54) := ⟨⟨by decide +kernel, by decide +kernel⟩, List.mem_of_getElem? (i := 1381) (by decide +kernel), List.mem_of_getElem? (i := 1874) (by decide +kernel), List.mem_of_getElem? (i := 1875) (by decide +kernel)⟩
theorem lw_p88 : lw_okq (⟨"RecastStageModel", "goesOnBy", "()I"⟩, 54) := ⟨⟨by decide +kernel, by decide +kernel⟩, List.mem_of_getElem? (i := 1381) (by decide +kernel), List.mem_of_getElem? (i := 1890) (by decide +kernel), List.mem_of_getElem? (i := 1891) (by decide +kernel)⟩
theorem lw_p89 : lw_okq (⟨"RecastStageModel", "tries", "()V"⟩, 54) := ⟨⟨by decide +kernel, by decide +kernel⟩, List.mem_of_getElem? (i := 1381) (by decide +kernel), List.mem_of_getElem? (i := 1894) (by decide +kernel), List.mem_of_getElem? (i := 1895) (by decide +kernel)⟩
theorem lw_p90 : lw_okq (⟨"RecastStageModel", "castsBest", "()Z"⟩, 54) := ⟨⟨by decide +kernel, by decide +kernel⟩, List.mem_of_getElem? (i := 1381) (by decide +kernel), List.mem_of_getElem? (i := 1898) (by decide +kernel), List.mem_of_getElem? (i := 1899) (by decide +kernel)⟩
theorem lw_p91 : lw_okq (⟨"RecastStageModel", "back", "()V"⟩, 54) := ⟨⟨by decide +kernel, by decide +kernel⟩, List.mem_of_getElem? (i := 1381) (by decide +kernel), List.mem_of_getElem? (i := 1902) (by decide +kernel), List.mem_of_getElem? (i := 1903) (by decide +kernel)⟩
theorem lw_p92 : lw_okq (⟨"RecastStageModel", "valueOf", "(II)I"⟩, 54) := ⟨⟨by decide +kernel, by decide +kernel⟩, List.mem_of_getElem? (i := 1381) (by decide +kernel), List.mem_of_getElem? (i := 1914) (by decide +kernel), List.mem_of_getElem? (i := 1915) (by decide +kernel)⟩
theorem lw_p93 : lw_okq (⟨"RecastStageModel", "draws", "(I)I"⟩, 54) := ⟨⟨by decide +kernel, by decide +kernel⟩, List.mem_of_getElem? (i := 1381) (by decide +kernel), List.mem_of_getElem? (i := 1922) (by decide +kernel), List.mem_of_getElem? (i := 1923) (by decide +kernel)⟩
theorem lw_p94 : lw_okq (⟨"RecastStageModel", "draw", "(I)I"⟩, 54) := ⟨⟨by decide +kernel, by decide +kernel⟩, List.mem_of_getElem? (i := 1381) (by decide +kernel), List.mem_of_getElem? (i := 1926) (by decide +kernel), List.mem_of_getElem? (i := 1927) (by decide +kernel)⟩
theorem lw_p95 : lw_okq (⟨"RecastStageModel", "bookLine", "()Z"⟩, 54) := ⟨⟨by decide +kernel, by decide +kernel⟩, List.mem_of_getElem? (i := 1381) (by decide +kernel), List.mem_of_getElem? (i := 1939) (by decide +kernel), List.mem_of_getElem? (i := 1940) (by decide +kernel)⟩
def lw_privs_6 : List (MethodName × Nat) := [(⟨"RecastStageModel", "whispers", "(II)V"⟩, 54), (⟨"RecastStageModel", "castsBy", "(ZI)V"⟩, 54), (⟨"RecastStageModel", "counts", "(II)V"⟩, 54), (⟨"RecastStageModel", "fits", "(IZ)Z"⟩, 54), (⟨"RecastStageModel", "canAlone", "(II)Z"⟩, 54), (⟨"RecastStageModel", "suspectsBy", "(I)I"⟩, 54), (⟨"RecastStageModel", "isSure", "(I)Z"⟩, 54), (⟨"RecastStageModel", "wantOf", "(I)I"⟩, 54), (⟨"RecastStageModel", "goesOnBy", "()I"⟩, 54), (⟨"RecastStageModel", "tries", "()V"⟩, 54), (⟨"RecastStageModel", "castsBest", "()Z"⟩, 54), (⟨"RecastStageModel", "back", "()V"⟩, 54), (⟨"RecastStageModel", "valueOf", "(II)I"⟩, 54), (⟨"RecastStageModel", "draws", "(I)I"⟩, 54), (⟨"RecastStageModel", "draw", "(I)I"⟩, 54), (⟨"RecastStageModel", "bookLine", "()Z"⟩, 54)]
theorem lw_r6 : ∀ q ∈ lw_privs_6, lw_okq q := List.forall_mem_cons.mpr ⟨lw_p80, List.forall_mem_cons.mpr ⟨lw_p81, List.forall_mem_cons.mpr ⟨lw_p82, List.forall_mem_cons.mpr ⟨lw_p83, List.forall_mem_cons.mpr ⟨lw_p84, List.forall_mem_cons.mpr ⟨lw_p85, List.forall_mem_cons.mpr ⟨lw_p86, List.forall_mem_cons.mpr ⟨lw_p87, List.forall_mem_cons.mpr ⟨lw_p88, List.forall_mem_cons.mpr ⟨lw_p89, List.forall_mem_cons.mpr ⟨lw_p90, List.forall_mem_cons.mpr ⟨lw_p91, List.forall_mem_cons.mpr ⟨lw_p92, List.forall_mem_cons.mpr ⟨lw_p93, List.forall_mem_cons.mpr ⟨lw_p94, List.forall_mem_cons.mpr ⟨lw_p95, fun _ h => absurd h List.not_mem_nil⟩⟩⟩⟩⟩⟩⟩⟩⟩⟩⟩⟩⟩⟩⟩⟩
theorem lw_p96 : lw_okq (⟨"RecastStageModel", "does", "(I)I"⟩, 54) := ⟨⟨by decide +kernel, by decide +kernel⟩, List.mem_of_getElem? (i := 1381) (by decide +kernel), List.mem_of_getElem? (i := 1943) (by decide +kernel), List.mem_of_getElem? (i := 1944) (by decide +kernel)⟩
theorem lw_p97 : lw_okq (⟨"RecastStageModel", "nots", "()V"⟩, 54) := ⟨⟨by decide +kernel, by decide +kernel⟩, List.mem_of_getElem? (i := 1381) (by decide +kernel), List.mem_of_getElem? (i := 1955) (by decide +kernel), List.mem_of_getElem? (i := 1956) (by decide +kernel)⟩
theorem lw_p98 : lw_okq (⟨"RecastStageModel", "code", "(III)V"⟩, 54) := ⟨⟨by decide +kernel, by decide +kernel⟩, List.mem_of_getElem? (i := 1381) (by decide +kernel), List.mem_of_getElem? (i := 1959) (by decide +kernel), List.mem_of_getElem? (i := 1960) (by decide +kernel)⟩
theorem lw_p99 : lw_okq (⟨"RecastStageModel", "joins", "(I)V"⟩, 54) := ⟨⟨by decide +kernel, by decide +kernel⟩, List.mem_of_getElem? (i := 1381) (by decide +kernel), List.mem_of_getElem? (i := 1963) (by decide +kernel), List.mem_of_getElem? (i := 1964) (by decide +kernel)⟩
theorem lw_p100 : lw_okq (⟨"RecastStageModel", "behind", "()Z"⟩, 54) := ⟨⟨by decide +kernel, by decide +kernel⟩, List.mem_of_getElem? (i := 1381) (by decide +kernel), List.mem_of_getElem? (i := 1967) (by decide +kernel), List.mem_of_getElem? (i := 1968) (by decide +kernel)⟩
theorem lw_p101 : lw_okq (⟨"RecastStageModel", "operand", "()Z"⟩, 54) := ⟨⟨by decide +kernel, by decide +kernel⟩, List.mem_of_getElem? (i := 1381) (by decide +kernel), List.mem_of_getElem? (i := 1971) (by decide +kernel), List.mem_of_getElem? (i := 1972) (by decide +kernel)⟩
theorem lw_p102 : lw_okq (⟨"RecastStageModel", "leafOf", "()I"⟩, 54) := ⟨⟨by decide +kernel, by decide +kernel⟩, List.mem_of_getElem? (i := 1381) (by decide +kernel), List.mem_of_getElem? (i := 1975) (by decide +kernel), List.mem_of_getElem? (i := 1976) (by decide +kernel)⟩
theorem lw_p103 : lw_okq (⟨"RecastStageModel", "isSaid", "(I)Z"⟩, 54) := ⟨⟨by decide +kernel, by decide +kernel⟩, List.mem_of_getElem? (i := 1381) (by decide +kernel), List.mem_of_getElem? (i := 1983) (by decide +kernel), List.mem_of_getElem? (i := 1984) (by decide +kernel)⟩
theorem lw_p104 : lw_okq (⟨"RecastStageModel", "isLeaf", "(IIII)Z"⟩, 54) := ⟨⟨by decide +kernel, by decide +kernel⟩, List.mem_of_getElem? (i := 1381) (by decide +kernel), List.mem_of_getElem? (i := 1987) (by decide +kernel), List.mem_of_getElem? (i := 1988) (by decide +kernel)⟩
def lw_privs_7 : List (MethodName × Nat) := [(⟨"RecastStageModel", "does", "(I)I"⟩, 54), (⟨"RecastStageModel", "nots", "()V"⟩, 54), (⟨"RecastStageModel", "code", "(III)V"⟩, 54), (⟨"RecastStageModel", "joins", "(I)V"⟩, 54), (⟨"RecastStageModel", "behind", "()Z"⟩, 54), (⟨"RecastStageModel", "operand", "()Z"⟩, 54), (⟨"RecastStageModel", "leafOf", "()I"⟩, 54), (⟨"RecastStageModel", "isSaid", "(I)Z"⟩, 54), (⟨"RecastStageModel", "isLeaf", "(IIII)Z"⟩, 54)]
theorem lw_r7 : ∀ q ∈ lw_privs_7, lw_okq q := List.forall_mem_cons.mpr ⟨lw_p96, List.forall_mem_cons.mpr ⟨lw_p97, List.forall_mem_cons.mpr ⟨lw_p98, List.forall_mem_cons.mpr ⟨lw_p99, List.forall_mem_cons.mpr ⟨lw_p100, List.forall_mem_cons.mpr ⟨lw_p101, List.forall_mem_cons.mpr ⟨lw_p102, List.forall_mem_cons.mpr ⟨lw_p103, List.forall_mem_cons.mpr ⟨lw_p104, fun _ h => absurd h List.not_mem_nil⟩⟩⟩⟩⟩⟩⟩⟩⟩
def lw_privs : List (MethodName × Nat) := lw_privs_1 ++ (lw_privs_2 ++ (lw_privs_3 ++ (lw_privs_4 ++ (lw_privs_5 ++ (lw_privs_6 ++ (lw_privs_7))))))
def lw_tbl : List Cond := k2_sels lw_privs ++ tables_1
theorem lw_privs_ok : ∀ q ∈ lw_privs, lw_okq q := by
  show ∀ q ∈ lw_privs_1 ++ (lw_privs_2 ++ (lw_privs_3 ++ (lw_privs_4 ++ (lw_privs_5 ++ (lw_privs_6 ++ (lw_privs_7)))))), lw_okq q
  exact List.forall_mem_append.mpr ⟨lw_r1, List.forall_mem_append.mpr ⟨lw_r2, List.forall_mem_append.mpr ⟨lw_r3, List.forall_mem_append.mpr ⟨lw_r4, List.forall_mem_append.mpr ⟨lw_r5, List.forall_mem_append.mpr ⟨lw_r6, lw_r7⟩⟩⟩⟩⟩⟩
/-! ===== BEGIN words of one list among another's, by their places ===== -/
theorem goodIn_r {big : List Cond} (ws : List Cond) (ps : List Nat) (hp : ws = ps.filterMap (fun i => big[i]?)) (h : ws.all goodWord = true) : GoodIn big ws := by
  intro w hw
  have h1 := List.all_eq_true.mp h w hw
  rw [hp] at hw
  obtain ⟨i, -, hi⟩ := List.mem_filterMap.mp hw
  have hm : w ∈ big := by first | exact List.mem_of_getElem? hi | exact List.getElem?_mem hi
  exact ⟨hm, good_of_word h1⟩
theorem goodIn_app {big a b : List Cond} (ha : GoodIn big a) (hb : GoodIn big b) : GoodIn big (a ++ b) := fun w h => (List.mem_append.mp h).elim (ha w) (hb w)
theorem goodIn_ca {big a b : List Cond} {c : Cond} (ha : GoodIn big (c :: a)) (hb : GoodIn big b) : GoodIn big (c :: (a ++ b)) := fun w h => (List.mem_cons.mp h).elim (fun e => ha w (List.mem_cons.mpr (Or.inl e))) (fun h => (List.mem_append.mp h).elim (fun h => ha w (List.mem_cons.mpr (Or.inr h))) (hb w))
theorem goodIn_sub {big ws : List Cond} (hm : ∀ w ∈ ws, w ∈ big) (h : ws.all goodWord = true) : GoodIn big ws := fun w hw => ⟨hm w hw, good_of_word (List.all_eq_true.mp h w hw)⟩
/-! ===== END ===== -/
/-! ===== BEGIN printed: names, fields, word lists, decode rows ===== -/
def RX0 : String := "RecastStage$Book"
def TX0 : u_T := fun k => match k with
  | 0 => ("RecastStage$Book", "lines", "I", false)
  | 1 => ("RecastStage$Book", "deeds", "[I", true)
  | 2 => ("RecastStage$Book", "men", "[I", true)
  | 3 => ("RecastStage$Book", "things", "[I", true)
  | 4 => ("RecastStage$Book", "judged", "Z", false)
  | 5 => ("RecastStage$Book", "reason", "I", false)
  | 6 => ("RecastStage$Book", "rightLines", "I", false)
  | 7 => ("RecastStage$Book", "nextThen", "I", false)
  | _ => ("RecastStage$Book", "joyInIt", "I", false)
def tyX0 : Nat → FieldType := fun k => match k with
  | 0 => .int
  | 1 => .array .int
  | 2 => .array .int
  | 3 => .array .int
  | 4 => .boolean
  | 5 => .int
  | 6 => .int
  | 7 => .int
  | _ => .int
abbrev wsX00 : List Cond := u_ws RX0 TX0 9
theorem nmX0 : ∀ a, a < 9 → ∀ b, b < 9 → a ≠ b → (TX0 a).2.1 ≠ (TX0 b).2.1 := by decide +kernel
theorem tyX0_ok : ∀ k, k < 9 → parseFieldDescriptor (TX0 k).2.2.1 = some (tyX0 k) := by decide +kernel
abbrev cX0_init : ByteArray := prog_2_method_1_code
def yX0_init : MethodName := ⟨RX0, "<init>", "()V"⟩
abbrev cX0_read : ByteArray := prog_2_method_2_code
def yX0_read : MethodName := ⟨RX0, "read", "(LRecastStage$Reader;LRecastStage$Play;)V"⟩
abbrev cX0_readLine : ByteArray := prog_2_method_3_code
def yX0_readLine : MethodName := ⟨RX0, "readLine", "(LRecastStage$Reader;LRecastStage$Play;)V"⟩
abbrev cX0_canBegin : ByteArray := prog_2_method_4_code
def yX0_canBegin : MethodName := ⟨RX0, "canBegin", "(LRecastStage$Reader;I)Z"⟩
abbrev cX0_judge : ByteArray := prog_2_method_5_code
def yX0_judge : MethodName := ⟨RX0, "judge", "(LRecastStage$Play;LRecastStage$Evening;LRecastStage$Casting;)I"⟩
abbrev cX0_whyWrong : ByteArray := prog_2_method_6_code
def yX0_whyWrong : MethodName := ⟨RX0, "whyWrong", "(ILRecastStage$Play;LRecastStage$Evening;LRecastStage$Casting;)I"⟩
def RX1 : String := "RecastStage$Casting"
def TX1 : u_T := fun k => match k with
  | 0 => ("RecastStage$Casting", "men", "I", false)
  | 1 => ("RecastStage$Casting", "foes", "[I", true)
  | 2 => ("RecastStage$Casting", "levels", "I", false)
  | 3 => ("RecastStage$Casting", "partAt", "[I", true)
  | 4 => ("RecastStage$Casting", "ableAt", "[I", true)
  | 5 => ("RecastStage$Casting", "besideAt", "[I", true)
  | 6 => ("RecastStage$Casting", "costs", "[I", true)
  | 7 => ("RecastStage$Casting", "cheapestFrom", "[I", true)
  | 8 => ("RecastStage$Casting", "manAt", "[I", true)
  | 9 => ("RecastStage$Casting", "foundAt", "[I", true)
  | 10 => ("RecastStage$Casting", "cheapest", "I", false)
  | 11 => ("RecastStage$Casting", "total", "I", false)
  | _ => ("RecastStage$Casting", "always", "I", false)
def tyX1 : Nat → FieldType := fun k => match k with
  | 0 => .int
  | 1 => .array .int
  | 2 => .int
  | 3 => .array .int
  | 4 => .array .int
  | 5 => .array .int
  | 6 => .array .int
  | 7 => .array .int
  | 8 => .array .int
  | 9 => .array .int
  | 10 => .int
  | 11 => .int
  | _ => .int
abbrev wsX10 : List Cond := u_ws RX1 TX1 13
theorem nmX1 : ∀ a, a < 13 → ∀ b, b < 13 → a ≠ b → (TX1 a).2.1 ≠ (TX1 b).2.1 := by decide +kernel
theorem tyX1_ok : ∀ k, k < 13 → parseFieldDescriptor (TX1 k).2.2.1 = some (tyX1 k) := by decide +kernel
abbrev cX1_init : ByteArray := prog_3_method_1_code
def yX1_init : MethodName := ⟨RX1, "<init>", "()V"⟩
abbrev cX1_prepare : ByteArray := prog_3_method_2_code
def yX1_prepare : MethodName := ⟨RX1, "prepare", "(LRecastStage$Play;LRecastStage$Evening;Z)Z"⟩
abbrev cX1_ableMen : ByteArray := prog_3_method_3_code
def yX1_ableMen : MethodName := ⟨RX1, "ableMen", "(LRecastStage$Play;LRecastStage$Evening;IZ)I"⟩
abbrev cX1_freeMen : ByteArray := prog_3_method_4_code
def yX1_freeMen : MethodName := ⟨RX1, "freeMen", "(II)I"⟩
abbrev cX1_findBest : ByteArray := prog_3_method_5_code
def yX1_findBest : MethodName := ⟨RX1, "findBest", "(LRecastStage$Play;LRecastStage$Evening;)Z"⟩
abbrev cX1_joyOfBest : ByteArray := prog_3_method_6_code
def yX1_joyOfBest : MethodName := ⟨RX1, "joyOfBest", "()I"⟩
abbrev cX1_castInto : ByteArray := prog_3_method_7_code
def yX1_castInto : MethodName := ⟨RX1, "castInto", "([I)V"⟩
abbrev cX1_leastLoss : ByteArray := prog_3_method_8_code
def yX1_leastLoss : MethodName := ⟨RX1, "leastLoss", "(LRecastStage$Play;LRecastStage$Evening;)I"⟩
abbrev cX1_fewestWhispers : ByteArray := prog_3_method_9_code
def yX1_fewestWhispers : MethodName := ⟨RX1, "fewestWhispers", "(LRecastStage$Play;LRecastStage$Evening;)I"⟩
abbrev cX1_findCheapest : ByteArray := prog_3_method_10_code
def yX1_findCheapest : MethodName := ⟨RX1, "findCheapest", "()Z"⟩
abbrev cX1_cheapestAt : ByteArray := prog_3_method_11_code
def yX1_cheapestAt : MethodName := ⟨RX1, "cheapestAt", "(I)I"⟩
abbrev cX1_seekCheapest : ByteArray := prog_3_method_12_code
def yX1_seekCheapest : MethodName := ⟨RX1, "seekCheapest", "(III)V"⟩
abbrev cX1_countBy : ByteArray := prog_3_method_13_code
def yX1_countBy : MethodName := ⟨RX1, "countBy", "(LRecastStage$Play;LRecastStage$Evening;I)I"⟩
abbrev cX1_seekAll : ByteArray := prog_3_method_14_code
def yX1_seekAll : MethodName := ⟨RX1, "seekAll", "(II)V"⟩
abbrev cX1_addLast : ByteArray := prog_3_method_15_code
def yX1_addLast : MethodName := ⟨RX1, "addLast", "(II)V"⟩
abbrev cX1_shortSet : ByteArray := prog_3_method_16_code
def yX1_shortSet : MethodName := ⟨RX1, "shortSet", "(LRecastStage$Play;LRecastStage$Evening;)I"⟩
abbrev cX1_ableForAny : ByteArray := prog_3_method_17_code
def yX1_ableForAny : MethodName := ⟨RX1, "ableForAny", "(I)I"⟩
abbrev cX1_partsAt : ByteArray := prog_3_method_18_code
def yX1_partsAt : MethodName := ⟨RX1, "partsAt", "(I)I"⟩
def RX2 : String := "RecastStage$Evening"
def TX2 : u_T := fun k => match k with
  | 0 => ("RecastStage$Evening", "next", "I", false)
  | 1 => ("RecastStage$Evening", "joySoFar", "I", false)
  | 2 => ("RecastStage$Evening", "lossSoFar", "I", false)
  | 3 => ("RecastStage$Evening", "whispered", "I", false)
  | 4 => ("RecastStage$Evening", "money", "I", false)
  | 5 => ("RecastStage$Evening", "clapsSoFar", "I", false)
  | 6 => ("RecastStage$Evening", "ahead", "I", false)
  | 7 => ("RecastStage$Evening", "ill", "I", false)
  | 8 => ("RecastStage$Evening", "manAs", "[I", true)
  | 9 => ("RecastStage$Evening", "lastAs", "[I", true)
  | 10 => ("RecastStage$Evening", "known", "[I", true)
  | 11 => ("RecastStage$Evening", "times", "[I", true)
  | _ => ("RecastStage$Evening", "clapsFor", "[I", true)
def tyX2 : Nat → FieldType := fun k => match k with
  | 0 => .int
  | 1 => .int
  | 2 => .int
  | 3 => .int
  | 4 => .int
  | 5 => .int
  | 6 => .int
  | 7 => .int
  | 8 => .array .int
  | 9 => .array .int
  | 10 => .array .int
  | 11 => .array .int
  | _ => .array .int
abbrev wsX20 : List Cond := u_ws RX2 TX2 13
theorem nmX2 : ∀ a, a < 13 → ∀ b, b < 13 → a ≠ b → (TX2 a).2.1 ≠ (TX2 b).2.1 := by decide +kernel
theorem tyX2_ok : ∀ k, k < 13 → parseFieldDescriptor (TX2 k).2.2.1 = some (tyX2 k) := by decide +kernel
abbrev cX2_init : ByteArray := prog_4_method_1_code
def yX2_init : MethodName := ⟨RX2, "<init>", "()V"⟩
abbrev cX2_begin : ByteArray := prog_4_method_2_code
def yX2_begin : MethodName := ⟨RX2, "begin", "()V"⟩
abbrev cX2_copyFrom : ByteArray := prog_4_method_3_code
def yX2_copyFrom : MethodName := ⟨RX2, "copyFrom", "(LRecastStage$Evening;)V"⟩
abbrev cX2_sendOff : ByteArray := prog_4_method_4_code
def yX2_sendOff : MethodName := ⟨RX2, "sendOff", "()V"⟩
abbrev cX2_isOver : ByteArray := prog_4_method_5_code
def yX2_isOver : MethodName := ⟨RX2, "isOver", "(LRecastStage$Play;)Z"⟩
abbrev cX2_menOn : ByteArray := prog_4_method_6_code
def yX2_menOn : MethodName := ⟨RX2, "menOn", "()I"⟩
abbrev cX2_partOf : ByteArray := prog_4_method_7_code
def yX2_partOf : MethodName := ⟨RX2, "partOf", "(I)I"⟩
abbrev cX2_whyNot : ByteArray := prog_4_method_8_code
def yX2_whyNot : MethodName := ⟨RX2, "whyNot", "(LRecastStage$Play;II)I"⟩
abbrev cX2_castUnlessWhy : ByteArray := prog_4_method_9_code
def yX2_castUnlessWhy : MethodName := ⟨RX2, "castUnlessWhy", "(LRecastStage$Play;II)I"⟩
abbrev cX2_whyUnfit : ByteArray := prog_4_method_10_code
def yX2_whyUnfit : MethodName := ⟨RX2, "whyUnfit", "(LRecastStage$Play;II)I"⟩
abbrev cX2_unknownTo : ByteArray := prog_4_method_11_code
def yX2_unknownTo : MethodName := ⟨RX2, "unknownTo", "(LRecastStage$Play;II)I"⟩
abbrev cX2_meetsFoe : ByteArray := prog_4_method_12_code
def yX2_meetsFoe : MethodName := ⟨RX2, "meetsFoe", "(LRecastStage$Play;II)Z"⟩
abbrev cX2_canTell : ByteArray := prog_4_method_13_code
def yX2_canTell : MethodName := ⟨RX2, "canTell", "(LRecastStage$Play;II)Z"⟩
abbrev cX2_tell : ByteArray := prog_4_method_14_code
def yX2_tell : MethodName := ⟨RX2, "tell", "(II)V"⟩
abbrev cX2_sureMen : ByteArray := prog_4_method_15_code
def yX2_sureMen : MethodName := ⟨RX2, "sureMen", "(LRecastStage$Play;)I"⟩
abbrev cX2_canEndAct : ByteArray := prog_4_method_16_code
def yX2_canEndAct : MethodName := ⟨RX2, "canEndAct", "(LRecastStage$Play;)Z"⟩
abbrev cX2_endAct : ByteArray := prog_4_method_17_code
def yX2_endAct : MethodName := ⟨RX2, "endAct", "(LRecastStage$Play;)V"⟩
abbrev cX2_lossBy : ByteArray := prog_4_method_18_code
def yX2_lossBy : MethodName := ⟨RX2, "lossBy", "(LRecastStage$Play;II)I"⟩
abbrev cX2_clap : ByteArray := prog_4_method_19_code
def yX2_clap : MethodName := ⟨RX2, "clap", "(LRecastStage$Play;I)V"⟩
abbrev cX2_learn : ByteArray := prog_4_method_20_code
def yX2_learn : MethodName := ⟨RX2, "learn", "(LRecastStage$Play;I)V"⟩
def RX3 : String := "RecastStage$History"
def TX3 : u_T := fun k => match k with
  | 0 => ("RecastStage$History", "evenings", "[LRecastStage$Evening;", true)
  | 1 => ("RecastStage$History", "oldest", "I", false)
  | _ => ("RecastStage$History", "kept", "I", false)
def tyX3 : Nat → FieldType := fun k => match k with
  | 0 => .array (.object "RecastStage$Evening")
  | 1 => .int
  | _ => .int
abbrev wsX30 : List Cond := u_ws RX3 TX3 3
theorem nmX3 : ∀ a, a < 3 → ∀ b, b < 3 → a ≠ b → (TX3 a).2.1 ≠ (TX3 b).2.1 := by decide +kernel
theorem tyX3_ok : ∀ k, k < 3 → parseFieldDescriptor (TX3 k).2.2.1 = some (tyX3 k) := by decide +kernel
abbrev cX3_init : ByteArray := prog_5_method_1_code
def yX3_init : MethodName := ⟨RX3, "<init>", "()V"⟩
abbrev cX3_forget : ByteArray := prog_5_method_2_code
def yX3_forget : MethodName := ⟨RX3, "forget", "()V"⟩
abbrev cX3_keep : ByteArray := prog_5_method_3_code
def yX3_keep : MethodName := ⟨RX3, "keep", "(LRecastStage$Evening;)V"⟩
abbrev cX3_takeBack : ByteArray := prog_5_method_4_code
def yX3_takeBack : MethodName := ⟨RX3, "takeBack", "(LRecastStage$Evening;)Z"⟩
def RX4 : String := "RecastStage$Image"
def TX4 : u_T := fun k => match k with
  | 0 => ("RecastStage$Image", "filled", "Z", false)
  | 1 => ("RecastStage$Image", "play", "LRecastStage$Play;", true)
  | 2 => ("RecastStage$Image", "evening", "LRecastStage$Evening;", true)
  | _ => ("RecastStage$Image", "sentence", "LRecastStage$Sentence;", true)
def tyX4 : Nat → FieldType := fun k => match k with
  | 0 => .boolean
  | 1 => .object "RecastStage$Play"
  | 2 => .object "RecastStage$Evening"
  | _ => .object "RecastStage$Sentence"
abbrev wsX40 : List Cond := u_ws RX4 TX4 4
theorem nmX4 : ∀ a, a < 4 → ∀ b, b < 4 → a ≠ b → (TX4 a).2.1 ≠ (TX4 b).2.1 := by decide +kernel
theorem tyX4_ok : ∀ k, k < 4 → parseFieldDescriptor (TX4 k).2.2.1 = some (tyX4 k) := by decide +kernel
abbrev cX4_init : ByteArray := prog_6_method_1_code
def yX4_init : MethodName := ⟨RX4, "<init>", "()V"⟩
def RX5 : String := "RecastStage$Market"
def TX5 : u_T := fun k => match k with
  | 0 => ("RecastStage$Market", "told", "Z", false)
  | 1 => ("RecastStage$Market", "priceOf", "[I", true)
  | _ => ("RecastStage$Market", "wantedBy", "[I", true)
def tyX5 : Nat → FieldType := fun k => match k with
  | 0 => .boolean
  | 1 => .array .int
  | _ => .array .int
abbrev wsX50 : List Cond := u_ws RX5 TX5 3
theorem nmX5 : ∀ a, a < 3 → ∀ b, b < 3 → a ≠ b → (TX5 a).2.1 ≠ (TX5 b).2.1 := by decide +kernel
theorem tyX5_ok : ∀ k, k < 3 → parseFieldDescriptor (TX5 k).2.2.1 = some (tyX5 k) := by decide +kernel
abbrev cX5_init : ByteArray := prog_7_method_1_code
def yX5_init : MethodName := ⟨RX5, "<init>", "()V"⟩
abbrev cX5_trade : ByteArray := prog_7_method_2_code
def yX5_trade : MethodName := ⟨RX5, "trade", "(LRecastStage$Play;LRecastStage$Evening;LRecastStage$Casting;)I"⟩
abbrev cX5_wishOf : ByteArray := prog_7_method_3_code
def yX5_wishOf : MethodName := ⟨RX5, "wishOf", "(ILRecastStage$Play;LRecastStage$Casting;)I"⟩
abbrev cX5_raise : ByteArray := prog_7_method_4_code
def yX5_raise : MethodName := ⟨RX5, "raise", "(LRecastStage$Play;)Z"⟩
def RX6 : String := "RecastStage$Play"
def TX6 : u_T := fun k => match k with
  | 0 => ("RecastStage$Play", "parts", "I", false)
  | 1 => ("RecastStage$Play", "facts", "I", false)
  | 2 => ("RecastStage$Play", "men", "I", false)
  | 3 => ("RecastStage$Play", "acts", "I", false)
  | 4 => ("RecastStage$Play", "scenes", "I", false)
  | 5 => ("RecastStage$Play", "rest", "Z", false)
  | 6 => ("RecastStage$Play", "partNames", "[J", true)
  | 7 => ("RecastStage$Play", "factNames", "[J", true)
  | 8 => ("RecastStage$Play", "manNames", "[J", true)
  | 9 => ("RecastStage$Play", "partSkill", "[I", true)
  | 10 => ("RecastStage$Play", "partNeeds", "[I", true)
  | 11 => ("RecastStage$Play", "factClears", "[I", true)
  | 12 => ("RecastStage$Play", "manSkill", "[I", true)
  | 13 => ("RecastStage$Play", "manSeat", "[I", true)
  | 14 => ("RecastStage$Play", "manNever", "[I", true)
  | 15 => ("RecastStage$Play", "manFoes", "[I", true)
  | 16 => ("RecastStage$Play", "likes", "[I", true)
  | 17 => ("RecastStage$Play", "sceneAct", "[I", true)
  | 18 => ("RecastStage$Play", "sceneParts", "[I", true)
  | _ => ("RecastStage$Play", "sceneFacts", "[I", true)
def tyX6 : Nat → FieldType := fun k => match k with
  | 0 => .int
  | 1 => .int
  | 2 => .int
  | 3 => .int
  | 4 => .int
  | 5 => .boolean
  | 6 => .array .long
  | 7 => .array .long
  | 8 => .array .long
  | 9 => .array .int
  | 10 => .array .int
  | 11 => .array .int
  | 12 => .array .int
  | 13 => .array .int
  | 14 => .array .int
  | 15 => .array .int
  | 16 => .array .int
  | 17 => .array .int
  | 18 => .array .int
  | _ => .array .int
abbrev wsX60 : List Cond := u_ws RX6 TX6 20
theorem nmX6 : ∀ a, a < 20 → ∀ b, b < 20 → a ≠ b → (TX6 a).2.1 ≠ (TX6 b).2.1 := by decide +kernel
theorem tyX6_ok : ∀ k, k < 20 → parseFieldDescriptor (TX6 k).2.2.1 = some (tyX6 k) := by decide +kernel
abbrev cX6_init : ByteArray := prog_8_method_1_code
def yX6_init : MethodName := ⟨RX6, "<init>", "()V"⟩
abbrev cX6_clear : ByteArray := prog_8_method_2_code
def yX6_clear : MethodName := ⟨RX6, "clear", "()V"⟩
abbrev cX6_copyFrom : ByteArray := prog_8_method_3_code
def yX6_copyFrom : MethodName := ⟨RX6, "copyFrom", "(LRecastStage$Play;)V"⟩
abbrev cX6_hasPart : ByteArray := prog_8_method_4_code
def yX6_hasPart : MethodName := ⟨RX6, "hasPart", "(I)Z"⟩
abbrev cX6_hasFact : ByteArray := prog_8_method_5_code
def yX6_hasFact : MethodName := ⟨RX6, "hasFact", "(I)Z"⟩
abbrev cX6_hasMan : ByteArray := prog_8_method_6_code
def yX6_hasMan : MethodName := ⟨RX6, "hasMan", "(I)Z"⟩
abbrev cX6_hasName : ByteArray := prog_8_method_7_code
def yX6_hasName : MethodName := ⟨RX6, "hasName", "(J)Z"⟩
abbrev cX6_allMen : ByteArray := prog_8_method_8_code
def yX6_allMen : MethodName := ⟨RX6, "allMen", "()I"⟩
abbrev cX6_liking : ByteArray := prog_8_method_9_code
def yX6_liking : MethodName := ⟨RX6, "liking", "(II)I"⟩
abbrev cX6_scenesOf : ByteArray := prog_8_method_10_code
def yX6_scenesOf : MethodName := ⟨RX6, "scenesOf", "(I)I"⟩
abbrev cX6_partsOf : ByteArray := prog_8_method_11_code
def yX6_partsOf : MethodName := ⟨RX6, "partsOf", "(I)I"⟩
abbrev cX6_factsOf : ByteArray := prog_8_method_12_code
def yX6_factsOf : MethodName := ⟨RX6, "factsOf", "(I)I"⟩
abbrev cX6_actsWith : ByteArray := prog_8_method_13_code
def yX6_actsWith : MethodName := ⟨RX6, "actsWith", "(I)I"⟩
abbrev cX6_partsBeside : ByteArray := prog_8_method_14_code
def yX6_partsBeside : MethodName := ⟨RX6, "partsBeside", "(II)I"⟩
abbrev cX6_suspectsWith : ByteArray := prog_8_method_15_code
def yX6_suspectsWith : MethodName := ⟨RX6, "suspectsWith", "(I)I"⟩
abbrev cX6_isSureWith : ByteArray := prog_8_method_16_code
def yX6_isSureWith : MethodName := ⟨RX6, "isSureWith", "(I)Z"⟩
def RX7 : String := "RecastStage$PlayReader"
def TX7 : u_T := fun k => match k with
  | _ => ("RecastStage$PlayReader", "told", "LRecastStage$Play;", true)
def tyX7 : Nat → FieldType := fun k => match k with
  | _ => .object "RecastStage$Play"
abbrev wsX70 : List Cond := u_ws RX7 TX7 1
theorem nmX7 : ∀ a, a < 1 → ∀ b, b < 1 → a ≠ b → (TX7 a).2.1 ≠ (TX7 b).2.1 := by decide +kernel
theorem tyX7_ok : ∀ k, k < 1 → parseFieldDescriptor (TX7 k).2.2.1 = some (tyX7 k) := by decide +kernel
abbrev cX7_init : ByteArray := prog_9_method_1_code
def yX7_init : MethodName := ⟨RX7, "<init>", "()V"⟩
abbrev cX7_read : ByteArray := prog_9_method_2_code
def yX7_read : MethodName := ⟨RX7, "read", "(LRecastStage$Reader;)I"⟩
abbrev cX7_readLine : ByteArray := prog_9_method_3_code
def yX7_readLine : MethodName := ⟨RX7, "readLine", "(LRecastStage$Reader;)V"⟩
abbrev cX7_takeOneOf : ByteArray := prog_9_method_4_code
def yX7_takeOneOf : MethodName := ⟨RX7, "takeOneOf", "(LRecastStage$Reader;II)Z"⟩
abbrev cX7_takeNewName : ByteArray := prog_9_method_5_code
def yX7_takeNewName : MethodName := ⟨RX7, "takeNewName", "(LRecastStage$Reader;[JI)Z"⟩
abbrev cX7_takeOnce : ByteArray := prog_9_method_6_code
def yX7_takeOnce : MethodName := ⟨RX7, "takeOnce", "(LRecastStage$Reader;II)I"⟩
abbrev cX7_readPart : ByteArray := prog_9_method_7_code
def yX7_readPart : MethodName := ⟨RX7, "readPart", "(LRecastStage$Reader;)V"⟩
abbrev cX7_readFact : ByteArray := prog_9_method_8_code
def yX7_readFact : MethodName := ⟨RX7, "readFact", "(LRecastStage$Reader;)V"⟩
abbrev cX7_readClears : ByteArray := prog_9_method_9_code
def yX7_readClears : MethodName := ⟨RX7, "readClears", "(LRecastStage$Reader;)V"⟩
abbrev cX7_readMan : ByteArray := prog_9_method_10_code
def yX7_readMan : MethodName := ⟨RX7, "readMan", "(LRecastStage$Reader;)V"⟩
abbrev cX7_readAct : ByteArray := prog_9_method_11_code
def yX7_readAct : MethodName := ⟨RX7, "readAct", "(LRecastStage$Reader;)V"⟩
abbrev cX7_readScene : ByteArray := prog_9_method_12_code
def yX7_readScene : MethodName := ⟨RX7, "readScene", "(LRecastStage$Reader;)V"⟩
abbrev cX7_readShows : ByteArray := prog_9_method_13_code
def yX7_readShows : MethodName := ⟨RX7, "readShows", "(LRecastStage$Reader;)V"⟩
abbrev cX7_readNeeds : ByteArray := prog_9_method_14_code
def yX7_readNeeds : MethodName := ⟨RX7, "readNeeds", "(LRecastStage$Reader;)V"⟩
abbrev cX7_readLikes : ByteArray := prog_9_method_15_code
def yX7_readLikes : MethodName := ⟨RX7, "readLikes", "(LRecastStage$Reader;)V"⟩
abbrev cX7_readNever : ByteArray := prog_9_method_16_code
def yX7_readNever : MethodName := ⟨RX7, "readNever", "(LRecastStage$Reader;)V"⟩
abbrev cX7_readFoes : ByteArray := prog_9_method_17_code
def yX7_readFoes : MethodName := ⟨RX7, "readFoes", "(LRecastStage$Reader;)V"⟩
abbrev cX7_readRest : ByteArray := prog_9_method_18_code
def yX7_readRest : MethodName := ⟨RX7, "readRest", "(LRecastStage$Reader;)V"⟩
def RX8 : String := "RecastStage$Reader"
def TX8 : u_T := fun k => match k with
  | 0 => ("RecastStage$Reader", "reserved", "[J", true)
  | 1 => ("RecastStage$Reader", "tape", "LRecastStage$Tape;", true)
  | 2 => ("RecastStage$Reader", "most", "I", false)
  | 3 => ("RecastStage$Reader", "behind", "I", false)
  | 4 => ("RecastStage$Reader", "kind", "I", false)
  | 5 => ("RecastStage$Reader", "place", "I", false)
  | 6 => ("RecastStage$Reader", "value", "I", false)
  | 7 => ("RecastStage$Reader", "word", "I", false)
  | 8 => ("RecastStage$Reader", "name", "J", false)
  | 9 => ("RecastStage$Reader", "fault", "I", false)
  | _ => ("RecastStage$Reader", "faultPlace", "I", false)
def tyX8 : Nat → FieldType := fun k => match k with
  | 0 => .array .long
  | 1 => .object "RecastStage$Tape"
  | 2 => .int
  | 3 => .int
  | 4 => .int
  | 5 => .int
  | 6 => .int
  | 7 => .int
  | 8 => .long
  | 9 => .int
  | _ => .int
abbrev wsX80 : List Cond := u_ws RX8 TX8 11
theorem nmX8 : ∀ a, a < 11 → ∀ b, b < 11 → a ≠ b → (TX8 a).2.1 ≠ (TX8 b).2.1 := by decide +kernel
theorem tyX8_ok : ∀ k, k < 11 → parseFieldDescriptor (TX8 k).2.2.1 = some (tyX8 k) := by decide +kernel
abbrev cX8_init : ByteArray := prog_10_method_1_code
def yX8_init : MethodName := ⟨RX8, "<init>", "()V"⟩
abbrev cX8_namesOf : ByteArray := prog_10_method_2_code
def yX8_namesOf : MethodName := ⟨RX8, "namesOf", "(Ljava/lang/String;)[J"⟩
abbrev cX8_withLetter : ByteArray := prog_10_method_3_code
def yX8_withLetter : MethodName := ⟨RX8, "withLetter", "(JI)J"⟩
abbrev cX8_open : ByteArray := prog_10_method_4_code
def yX8_open : MethodName := ⟨RX8, "open", "(I)V"⟩
abbrev cX8_step : ByteArray := prog_10_method_5_code
def yX8_step : MethodName := ⟨RX8, "step", "()V"⟩
abbrev cX8_readRun : ByteArray := prog_10_method_6_code
def yX8_readRun : MethodName := ⟨RX8, "readRun", "()V"⟩
abbrev cX8_indexOf : ByteArray := prog_10_method_7_code
def yX8_indexOf : MethodName := ⟨RX8, "indexOf", "([JIJ)I"⟩
abbrev cX8_isBlank : ByteArray := prog_10_method_8_code
def yX8_isBlank : MethodName := ⟨RX8, "isBlank", "(I)Z"⟩
abbrev cX8_isLetter : ByteArray := prog_10_method_9_code
def yX8_isLetter : MethodName := ⟨RX8, "isLetter", "(I)Z"⟩
abbrev cX8_isDigit : ByteArray := prog_10_method_10_code
def yX8_isDigit : MethodName := ⟨RX8, "isDigit", "(I)Z"⟩
abbrev cX8_isSign : ByteArray := prog_10_method_11_code
def yX8_isSign : MethodName := ⟨RX8, "isSign", "(I)Z"⟩
abbrev cX8_isFine : ByteArray := prog_10_method_12_code
def yX8_isFine : MethodName := ⟨RX8, "isFine", "()Z"⟩
abbrev cX8_fail : ByteArray := prog_10_method_13_code
def yX8_fail : MethodName := ⟨RX8, "fail", "(I)V"⟩
abbrev cX8_isAtName : ByteArray := prog_10_method_14_code
def yX8_isAtName : MethodName := ⟨RX8, "isAtName", "()Z"⟩
abbrev cX8_isAtWord : ByteArray := prog_10_method_15_code
def yX8_isAtWord : MethodName := ⟨RX8, "isAtWord", "(I)Z"⟩
abbrev cX8_isAtSign : ByteArray := prog_10_method_16_code
def yX8_isAtSign : MethodName := ⟨RX8, "isAtSign", "(I)Z"⟩
abbrev cX8_wordHere : ByteArray := prog_10_method_17_code
def yX8_wordHere : MethodName := ⟨RX8, "wordHere", "()I"⟩
abbrev cX8_nameHere : ByteArray := prog_10_method_18_code
def yX8_nameHere : MethodName := ⟨RX8, "nameHere", "([JI)I"⟩
abbrev cX8_takeName : ByteArray := prog_10_method_19_code
def yX8_takeName : MethodName := ⟨RX8, "takeName", "([JI)I"⟩
abbrev cX8_takeSign : ByteArray := prog_10_method_20_code
def yX8_takeSign : MethodName := ⟨RX8, "takeSign", "(I)V"⟩
abbrev cX8_takeWord : ByteArray := prog_10_method_21_code
def yX8_takeWord : MethodName := ⟨RX8, "takeWord", "(I)V"⟩
abbrev cX8_takeNumber : ByteArray := prog_10_method_22_code
def yX8_takeNumber : MethodName := ⟨RX8, "takeNumber", "(II)I"⟩
def RX9 : String := "RecastStage$Sentence"
def TX9 : u_T := fun k => match k with
  | 0 => ("RecastStage$Sentence", "ones", "I", false)
  | 1 => ("RecastStage$Sentence", "steps", "I", false)
  | 2 => ("RecastStage$Sentence", "kinds", "[I", true)
  | 3 => ("RecastStage$Sentence", "signs", "[I", true)
  | 4 => ("RecastStage$Sentence", "numbers", "[I", true)
  | _ => ("RecastStage$Sentence", "sets", "[I", true)
def tyX9 : Nat → FieldType := fun k => match k with
  | 0 => .int
  | 1 => .int
  | 2 => .array .int
  | 3 => .array .int
  | 4 => .array .int
  | _ => .array .int
abbrev wsX90 : List Cond := u_ws RX9 TX9 6
theorem nmX9 : ∀ a, a < 6 → ∀ b, b < 6 → a ≠ b → (TX9 a).2.1 ≠ (TX9 b).2.1 := by decide +kernel
theorem tyX9_ok : ∀ k, k < 6 → parseFieldDescriptor (TX9 k).2.2.1 = some (tyX9 k) := by decide +kernel
abbrev cX9_init : ByteArray := prog_11_method_1_code
def yX9_init : MethodName := ⟨RX9, "<init>", "()V"⟩
abbrev cX9_clear : ByteArray := prog_11_method_2_code
def yX9_clear : MethodName := ⟨RX9, "clear", "()V"⟩
abbrev cX9_copyFrom : ByteArray := prog_11_method_3_code
def yX9_copyFrom : MethodName := ⟨RX9, "copyFrom", "(LRecastStage$Sentence;)V"⟩
abbrev cX9_read : ByteArray := prog_11_method_4_code
def yX9_read : MethodName := ⟨RX9, "read", "(LRecastStage$Reader;LRecastStage$Play;)V"⟩
abbrev cX9_readCond : ByteArray := prog_11_method_5_code
def yX9_readCond : MethodName := ⟨RX9, "readCond", "(LRecastStage$Reader;LRecastStage$Play;I)V"⟩
abbrev cX9_readAll : ByteArray := prog_11_method_6_code
def yX9_readAll : MethodName := ⟨RX9, "readAll", "(LRecastStage$Reader;LRecastStage$Play;I)V"⟩
abbrev cX9_readOne : ByteArray := prog_11_method_7_code
def yX9_readOne : MethodName := ⟨RX9, "readOne", "(LRecastStage$Reader;LRecastStage$Play;I)V"⟩
abbrev cX9_readPlainOne : ByteArray := prog_11_method_8_code
def yX9_readPlainOne : MethodName := ⟨RX9, "readPlainOne", "(LRecastStage$Reader;LRecastStage$Play;I)V"⟩
abbrev cX9_addStep : ByteArray := prog_11_method_9_code
def yX9_addStep : MethodName := ⟨RX9, "addStep", "(III)V"⟩
abbrev cX9_menOf : ByteArray := prog_11_method_10_code
def yX9_menOf : MethodName := ⟨RX9, "menOf", "(LRecastStage$Play;LRecastStage$Evening;)I"⟩
abbrev cX9_menOfOne : ByteArray := prog_11_method_11_code
def yX9_menOfOne : MethodName := ⟨RX9, "menOfOne", "(ILRecastStage$Play;LRecastStage$Evening;)I"⟩
abbrev cX9_holdsFor : ByteArray := prog_11_method_12_code
def yX9_holdsFor : MethodName := ⟨RX9, "holdsFor", "(IILRecastStage$Play;LRecastStage$Evening;)Z"⟩
abbrev cX9_compares : ByteArray := prog_11_method_13_code
def yX9_compares : MethodName := ⟨RX9, "compares", "(II)Z"⟩
def RX10 : String := "RecastStage$Tape"
def TX10 : u_T := fun k => match k with
  | 0 => ("RecastStage$Tape", "bytes", "[B", true)
  | _ => ("RecastStage$Tape", "length", "I", false)
def tyX10 : Nat → FieldType := fun k => match k with
  | 0 => .array .byte
  | _ => .int
abbrev wsX100 : List Cond := u_ws RX10 TX10 2
theorem nmX10 : ∀ a, a < 2 → ∀ b, b < 2 → a ≠ b → (TX10 a).2.1 ≠ (TX10 b).2.1 := by decide +kernel
theorem tyX10_ok : ∀ k, k < 2 → parseFieldDescriptor (TX10 k).2.2.1 = some (tyX10 k) := by decide +kernel
abbrev cX10_init : ByteArray := prog_12_method_1_code
def yX10_init : MethodName := ⟨RX10, "<init>", "()V"⟩
abbrev cX10_hasRoom : ByteArray := prog_12_method_2_code
def yX10_hasRoom : MethodName := ⟨RX10, "hasRoom", "(I)Z"⟩
abbrev cX10_append : ByteArray := prog_12_method_3_code
def yX10_append : MethodName := ⟨RX10, "append", "(I)V"⟩
abbrev cX10_byteAt : ByteArray := prog_12_method_4_code
def yX10_byteAt : MethodName := ⟨RX10, "byteAt", "(I)I"⟩
def RX11 : String := "RecastStage"
def TX11 : u_T := fun k => match k with
  | 0 => ("RecastStage", "reader", "LRecastStage$Reader;", true)
  | 1 => ("RecastStage", "playReader", "LRecastStage$PlayReader;", true)
  | 2 => ("RecastStage", "play", "LRecastStage$Play;", true)
  | 3 => ("RecastStage", "evening", "LRecastStage$Evening;", true)
  | 4 => ("RecastStage", "trial", "LRecastStage$Evening;", true)
  | 5 => ("RecastStage", "history", "LRecastStage$History;", true)
  | 6 => ("RecastStage", "sentence", "LRecastStage$Sentence;", true)
  | 7 => ("RecastStage", "newSentence", "LRecastStage$Sentence;", true)
  | 8 => ("RecastStage", "casting", "LRecastStage$Casting;", true)
  | 9 => ("RecastStage", "market", "LRecastStage$Market;", true)
  | 10 => ("RecastStage", "book", "LRecastStage$Book;", true)
  | 11 => ("RecastStage", "images", "[LRecastStage$Image;", true)
  | 12 => ("RecastStage", "bestMen", "[I", true)
  | _ => ("RecastStage", "latestFault", "I", false)
def tyX11 : Nat → FieldType := fun k => match k with
  | 0 => .object "RecastStage$Reader"
  | 1 => .object "RecastStage$PlayReader"
  | 2 => .object "RecastStage$Play"
  | 3 => .object "RecastStage$Evening"
  | 4 => .object "RecastStage$Evening"
  | 5 => .object "RecastStage$History"
  | 6 => .object "RecastStage$Sentence"
  | 7 => .object "RecastStage$Sentence"
  | 8 => .object "RecastStage$Casting"
  | 9 => .object "RecastStage$Market"
  | 10 => .object "RecastStage$Book"
  | 11 => .array (.object "RecastStage$Image")
  | 12 => .array .int
  | _ => .int
abbrev wsX110 : List Cond := u_ws RX11 TX11 14
theorem nmX11 : ∀ a, a < 14 → ∀ b, b < 14 → a ≠ b → (TX11 a).2.1 ≠ (TX11 b).2.1 := by decide +kernel
theorem tyX11_ok : ∀ k, k < 14 → parseFieldDescriptor (TX11 k).2.2.1 = some (tyX11 k) := by decide +kernel
abbrev cX11_init : ByteArray := prog_1_method_1_code
def yX11_init : MethodName := ⟨RX11, "<init>", "()V"⟩
abbrev cX11_feed : ByteArray := prog_1_method_2_code
def yX11_feed : MethodName := ⟨RX11, "feed", "(IIIII)I"⟩
abbrev cX11_end : ByteArray := prog_1_method_3_code
def yX11_end : MethodName := ⟨RX11, "end", "(I)Z"⟩
abbrev cX11_play : ByteArray := prog_1_method_4_code
def yX11_play : MethodName := ⟨RX11, "play", "()I"⟩
abbrev cX11_fault : ByteArray := prog_1_method_5_code
def yX11_fault : MethodName := ⟨RX11, "fault", "()I"⟩
abbrev cX11_part : ByteArray := prog_1_method_6_code
def yX11_part : MethodName := ⟨RX11, "part", "(II)I"⟩
abbrev cX11_man : ByteArray := prog_1_method_7_code
def yX11_man : MethodName := ⟨RX11, "man", "(II)I"⟩
abbrev cX11_act : ByteArray := prog_1_method_8_code
def yX11_act : MethodName := ⟨RX11, "act", "(II)I"⟩
abbrev cX11_scene : ByteArray := prog_1_method_9_code
def yX11_scene : MethodName := ⟨RX11, "scene", "(II)I"⟩
abbrev cX11_now : ByteArray := prog_1_method_10_code
def yX11_now : MethodName := ⟨RX11, "now", "(I)I"⟩
abbrev cX11_why : ByteArray := prog_1_method_11_code
def yX11_why : MethodName := ⟨RX11, "why", "(II)I"⟩
abbrev cX11_cast : ByteArray := prog_1_method_12_code
def yX11_cast : MethodName := ⟨RX11, "cast", "(II)I"⟩
abbrev cX11_drop : ByteArray := prog_1_method_13_code
def yX11_drop : MethodName := ⟨RX11, "drop", "(I)I"⟩
abbrev cX11_curtain : ByteArray := prog_1_method_14_code
def yX11_curtain : MethodName := ⟨RX11, "curtain", "()I"⟩
abbrev cX11_whisper : ByteArray := prog_1_method_15_code
def yX11_whisper : MethodName := ⟨RX11, "whisper", "(II)Z"⟩
abbrev cX11_undo : ByteArray := prog_1_method_16_code
def yX11_undo : MethodName := ⟨RX11, "undo", "()I"⟩
abbrev cX11_best : ByteArray := prog_1_method_17_code
def yX11_best : MethodName := ⟨RX11, "best", "()I"⟩
abbrev cX11_bestAs : ByteArray := prog_1_method_18_code
def yX11_bestAs : MethodName := ⟨RX11, "bestAs", "(I)I"⟩
abbrev cX11_casts : ByteArray := prog_1_method_19_code
def yX11_casts : MethodName := ⟨RX11, "casts", "()I"⟩
abbrev cX11_bowed : ByteArray := prog_1_method_20_code
def yX11_bowed : MethodName := ⟨RX11, "bowed", "(I)I"⟩
abbrev cX11_surely : ByteArray := prog_1_method_21_code
def yX11_surely : MethodName := ⟨RX11, "surely", "()I"⟩
abbrev cX11_lacks : ByteArray := prog_1_method_22_code
def yX11_lacks : MethodName := ⟨RX11, "lacks", "()I"⟩
abbrev cX11_least : ByteArray := prog_1_method_23_code
def yX11_least : MethodName := ⟨RX11, "least", "()I"⟩
abbrev cX11_whispers : ByteArray := prog_1_method_24_code
def yX11_whispers : MethodName := ⟨RX11, "whispers", "()I"⟩
abbrev cX11_suspects : ByteArray := prog_1_method_25_code
def yX11_suspects : MethodName := ⟨RX11, "suspects", "(I)I"⟩
abbrev cX11_sure : ByteArray := prog_1_method_26_code
def yX11_sure : MethodName := ⟨RX11, "sure", "()I"⟩
abbrev cX11_tells : ByteArray := prog_1_method_27_code
def yX11_tells : MethodName := ⟨RX11, "tells", "(I)I"⟩
abbrev cX11_prices : ByteArray := prog_1_method_28_code
def yX11_prices : MethodName := ⟨RX11, "prices", "()I"⟩
abbrev cX11_price : ByteArray := prog_1_method_29_code
def yX11_price : MethodName := ⟨RX11, "price", "(I)I"⟩
abbrev cX11_wants : ByteArray := prog_1_method_30_code
def yX11_wants : MethodName := ⟨RX11, "wants", "(I)I"⟩
abbrev cX11_goesOn : ByteArray := prog_1_method_31_code
def yX11_goesOn : MethodName := ⟨RX11, "goesOn", "()I"⟩
abbrev cX11_joy : ByteArray := prog_1_method_32_code
def yX11_joy : MethodName := ⟨RX11, "joy", "()I"⟩
abbrev cX11_favourite : ByteArray := prog_1_method_33_code
def yX11_favourite : MethodName := ⟨RX11, "favourite", "(I)I"⟩
abbrev cX11_drawn : ByteArray := prog_1_method_34_code
def yX11_drawn : MethodName := ⟨RX11, "drawn", "(I)I"⟩
abbrev cX11_odds : ByteArray := prog_1_method_35_code
def yX11_odds : MethodName := ⟨RX11, "odds", "(II)I"⟩
abbrev cX11_book : ByteArray := prog_1_method_36_code
def yX11_book : MethodName := ⟨RX11, "book", "(I)I"⟩
abbrev cX11_booked : ByteArray := prog_1_method_37_code
def yX11_booked : MethodName := ⟨RX11, "booked", "(I)I"⟩
abbrev cX11_sentence : ByteArray := prog_1_method_38_code
def yX11_sentence : MethodName := ⟨RX11, "sentence", "()I"⟩
abbrev cX11_said : ByteArray := prog_1_method_39_code
def yX11_said : MethodName := ⟨RX11, "said", "(I)I"⟩
abbrev cX11_image : ByteArray := prog_1_method_40_code
def yX11_image : MethodName := ⟨RX11, "image", "(I)Z"⟩
abbrev cX11_restore : ByteArray := prog_1_method_41_code
def yX11_restore : MethodName := ⟨RX11, "restore", "(I)Z"⟩
abbrev cX11_count : ByteArray := prog_1_method_42_code
def yX11_count : MethodName := ⟨RX11, "count", "(I)I"⟩
abbrev cX11_has : ByteArray := prog_1_method_43_code
def yX11_has : MethodName := ⟨RX11, "has", "(II)Z"⟩
abbrev cX11_firstWithMost : ByteArray := prog_1_method_44_code
def yX11_firstWithMost : MethodName := ⟨RX11, "firstWithMost", "([II)I"⟩
abbrev cX11_playBest : ByteArray := prog_1_method_45_code
def yX11_playBest : MethodName := ⟨RX11, "playBest", "(LRecastStage$Evening;)Z"⟩
abbrev cX11_goOnByBest : ByteArray := prog_1_method_46_code
def yX11_goOnByBest : MethodName := ⟨RX11, "goOnByBest", "()V"⟩
abbrev cX11_playDrawn : ByteArray := prog_1_method_47_code
def yX11_playDrawn : MethodName := ⟨RX11, "playDrawn", "(LRecastStage$Evening;I)V"⟩
def RX12 : String := "RecastStageModel"
def TX12 : u_T := fun k => match k with
  | 0 => ("RecastStageModel", "thrown", "I", false)
  | 1 => ("RecastStageModel", "tape", "[B", true)
  | 2 => ("RecastStageModel", "length", "I", false)
  | 3 => ("RecastStageModel", "size", "I", false)
  | 4 => ("RecastStageModel", "p", "I", false)
  | 5 => ("RecastStageModel", "limit", "I", false)
  | 6 => ("RecastStageModel", "s", "[I", true)
  | 7 => ("RecastStageModel", "h", "[I", true)
  | 8 => ("RecastStageModel", "read", "[I", true)
  | 9 => ("RecastStageModel", "names", "[J", true)
  | 10 => ("RecastStageModel", "reserved", "[J", true)
  | 11 => ("RecastStageModel", "token", "I", false)
  | 12 => ("RecastStageModel", "at", "I", false)
  | 13 => ("RecastStageModel", "span", "I", false)
  | 14 => ("RecastStageModel", "number", "I", false)
  | 15 => ("RecastStageModel", "fault", "I", false)
  | 16 => ("RecastStageModel", "faultAt", "I", false)
  | 17 => ("RecastStageModel", "word", "J", false)
  | 18 => ("RecastStageModel", "got", "I", false)
  | 19 => ("RecastStageModel", "lines", "I", false)
  | 20 => ("RecastStageModel", "undone", "[I", true)
  | 21 => ("RecastStageModel", "before", "[I", true)
  | 22 => ("RecastStageModel", "undoMany", "I", false)
  | 23 => ("RecastStageModel", "partAt", "[I", true)
  | 24 => ("RecastStageModel", "manAt", "[I", true)
  | 25 => ("RecastStageModel", "bestMan", "[I", true)
  | 26 => ("RecastStageModel", "castMany", "I", false)
  | 27 => ("RecastStageModel", "bestJoy", "I", false)
  | 28 => ("RecastStageModel", "leastLoss", "I", false)
  | 29 => ("RecastStageModel", "inAll", "I", false)
  | 30 => ("RecastStageModel", "bowedMany", "I", false)
  | 31 => ("RecastStageModel", "fewest", "I", false)
  | 32 => ("RecastStageModel", "bestRow", "[I", true)
  | 33 => ("RecastStageModel", "bestParts", "I", false)
  | 34 => ("RecastStageModel", "price", "[I", true)
  | 35 => ("RecastStageModel", "want", "[I", true)
  | 36 => ("RecastStageModel", "asked", "[I", true)
  | 37 => ("RecastStageModel", "priceParts", "I", false)
  | 38 => ("RecastStageModel", "priceMen", "I", false)
  | 39 => ("RecastStageModel", "joyOn", "I", false)
  | 40 => ("RecastStageModel", "seed", "I", false)
  | 41 => ("RecastStageModel", "told", "I", false)
  | 42 => ("RecastStageModel", "bookedAt", "[I", true)
  | 43 => ("RecastStageModel", "hasBooked", "Z", false)
  | 44 => ("RecastStageModel", "stack", "[I", true)
  | 45 => ("RecastStageModel", "codes", "I", false)
  | 46 => ("RecastStageModel", "ones", "I", false)
  | 47 => ("RecastStageModel", "top", "I", false)
  | 48 => ("RecastStageModel", "deep", "I", false)
  | 49 => ("RecastStageModel", "isWhole", "Z", false)
  | 50 => ("RecastStageModel", "truths", "[Z", true)
  | 51 => ("RecastStageModel", "kept", "[I", true)
  | 52 => ("RecastStageModel", "namesKept", "[J", true)
  | _ => ("RecastStageModel", "areKept", "[Z", true)
def tyX12 : Nat → FieldType := fun k => match k with
  | 0 => .int
  | 1 => .array .byte
  | 2 => .int
  | 3 => .int
  | 4 => .int
  | 5 => .int
  | 6 => .array .int
  | 7 => .array .int
  | 8 => .array .int
  | 9 => .array .long
  | 10 => .array .long
  | 11 => .int
  | 12 => .int
  | 13 => .int
  | 14 => .int
  | 15 => .int
  | 16 => .int
  | 17 => .long
  | 18 => .int
  | 19 => .int
  | 20 => .array .int
  | 21 => .array .int
  | 22 => .int
  | 23 => .array .int
  | 24 => .array .int
  | 25 => .array .int
  | 26 => .int
  | 27 => .int
  | 28 => .int
  | 29 => .int
  | 30 => .int
  | 31 => .int
  | 32 => .array .int
  | 33 => .int
  | 34 => .array .int
  | 35 => .array .int
  | 36 => .array .int
  | 37 => .int
  | 38 => .int
  | 39 => .int
  | 40 => .int
  | 41 => .int
  | 42 => .array .int
  | 43 => .boolean
  | 44 => .array .int
  | 45 => .int
  | 46 => .int
  | 47 => .int
  | 48 => .int
  | 49 => .boolean
  | 50 => .array .boolean
  | 51 => .array .int
  | 52 => .array .long
  | _ => .array .boolean
abbrev wsX120 : List Cond := u_ws RX12 TX12 54
theorem nmX12 : ∀ a, a < 54 → ∀ b, b < 54 → a ≠ b → (TX12 a).2.1 ≠ (TX12 b).2.1 := by decide +kernel
theorem tyX12_ok : ∀ k, k < 54 → parseFieldDescriptor (TX12 k).2.2.1 = some (tyX12 k) := by decide +kernel
abbrev cX12_throwsIf : ByteArray := prog_14_method_2_code
def yX12_throwsIf : MethodName := ⟨RX12, "throwsIf", "(Z)Z"⟩
abbrev cX12_feed : ByteArray := prog_14_method_3_code
def yX12_feed : MethodName := ⟨RX12, "feed", "(IIIII)I"⟩
abbrev cX12_four : ByteArray := prog_14_method_4_code
def yX12_four : MethodName := ⟨RX12, "four", "(I)V"⟩
abbrev cX12_end : ByteArray := prog_14_method_5_code
def yX12_end : MethodName := ⟨RX12, "end", "(I)Z"⟩
abbrev cX12_taken : ByteArray := prog_14_method_6_code
def yX12_taken : MethodName := ⟨RX12, "taken", "(I)V"⟩
abbrev cX12_isIn : ByteArray := prog_14_method_7_code
def yX12_isIn : MethodName := ⟨RX12, "isIn", "(III)Z"⟩
abbrev cX12_bitOf : ByteArray := prog_14_method_8_code
def yX12_bitOf : MethodName := ⟨RX12, "bitOf", "(II)Z"⟩
abbrev cX12_off : ByteArray := prog_14_method_9_code
def yX12_off : MethodName := ⟨RX12, "off", "(II)I"⟩
abbrev cX12_bits : ByteArray := prog_14_method_10_code
def yX12_bits : MethodName := ⟨RX12, "bits", "(I)I"⟩
abbrev cX12_init : ByteArray := prog_14_method_11_code
def yX12_init : MethodName := ⟨RX12, "<init>", "()V"⟩
abbrev cX12_peek : ByteArray := prog_14_method_12_code
def yX12_peek : MethodName := ⟨RX12, "peek", "()I"⟩
abbrev cX12_isSmall : ByteArray := prog_14_method_13_code
def yX12_isSmall : MethodName := ⟨RX12, "isSmall", "(I)Z"⟩
abbrev cX12_isDigit : ByteArray := prog_14_method_14_code
def yX12_isDigit : MethodName := ⟨RX12, "isDigit", "(I)Z"⟩
abbrev cX12_go : ByteArray := prog_14_method_15_code
def yX12_go : MethodName := ⟨RX12, "go", "()V"⟩
abbrev cX12_bad : ByteArray := prog_14_method_16_code
def yX12_bad : MethodName := ⟨RX12, "bad", "(I)Z"⟩
abbrev cX12_isWord : ByteArray := prog_14_method_17_code
def yX12_isWord : MethodName := ⟨RX12, "isWord", "(J)Z"⟩
abbrev cX12_isSign : ByteArray := prog_14_method_18_code
def yX12_isSign : MethodName := ⟨RX12, "isSign", "(I)Z"⟩
abbrev cX12_sign : ByteArray := prog_14_method_19_code
def yX12_sign : MethodName := ⟨RX12, "sign", "(I)Z"⟩
abbrev cX12_isName : ByteArray := prog_14_method_20_code
def yX12_isName : MethodName := ⟨RX12, "isName", "()Z"⟩
abbrev cX12_takes : ByteArray := prog_14_method_21_code
def yX12_takes : MethodName := ⟨RX12, "takes", "(II)Z"⟩
abbrev cX12_find : ByteArray := prog_14_method_22_code
def yX12_find : MethodName := ⟨RX12, "find", "(II)I"⟩
abbrev cX12_fresh : ByteArray := prog_14_method_23_code
def yX12_fresh : MethodName := ⟨RX12, "fresh", "(I)Z"⟩
abbrev cX12_looksAt : ByteArray := prog_14_method_24_code
def yX12_looksAt : MethodName := ⟨RX12, "looksAt", "(II)Z"⟩
abbrev cX12_takesName : ByteArray := prog_14_method_25_code
def yX12_takesName : MethodName := ⟨RX12, "takesName", "(II)Z"⟩
abbrev cX12_sets : ByteArray := prog_14_method_26_code
def yX12_sets : MethodName := ⟨RX12, "sets", "(I)Z"⟩
abbrev cX12_line : ByteArray := prog_14_method_27_code
def yX12_line : MethodName := ⟨RX12, "line", "()Z"⟩
abbrev cX12_readScene : ByteArray := prog_14_method_28_code
def yX12_readScene : MethodName := ⟨RX12, "readScene", "()Z"⟩
abbrev cX12_pairs : ByteArray := prog_14_method_29_code
def yX12_pairs : MethodName := ⟨RX12, "pairs", "()Z"⟩
abbrev cX12_play : ByteArray := prog_14_method_30_code
def yX12_play : MethodName := ⟨RX12, "play", "()I"⟩
abbrev cX12_fault : ByteArray := prog_14_method_31_code
def yX12_fault : MethodName := ⟨RX12, "fault", "()I"⟩
abbrev cX12_isPart : ByteArray := prog_14_method_32_code
def yX12_isPart : MethodName := ⟨RX12, "isPart", "(I)Z"⟩
abbrev cX12_isMan : ByteArray := prog_14_method_33_code
def yX12_isMan : MethodName := ⟨RX12, "isMan", "(I)Z"⟩
abbrev cX12_isOver : ByteArray := prog_14_method_34_code
def yX12_isOver : MethodName := ⟨RX12, "isOver", "()Z"⟩
abbrev cX12_partsOf : ByteArray := prog_14_method_35_code
def yX12_partsOf : MethodName := ⟨RX12, "partsOf", "(I)I"⟩
abbrev cX12_factsOf : ByteArray := prog_14_method_36_code
def yX12_factsOf : MethodName := ⟨RX12, "factsOf", "(I)I"⟩
abbrev cX12_castAs : ByteArray := prog_14_method_37_code
def yX12_castAs : MethodName := ⟨RX12, "castAs", "(I)I"⟩
abbrev cX12_part : ByteArray := prog_14_method_38_code
def yX12_part : MethodName := ⟨RX12, "part", "(II)I"⟩
abbrev cX12_man : ByteArray := prog_14_method_39_code
def yX12_man : MethodName := ⟨RX12, "man", "(II)I"⟩
abbrev cX12_act : ByteArray := prog_14_method_40_code
def yX12_act : MethodName := ⟨RX12, "act", "(II)I"⟩
abbrev cX12_scene : ByteArray := prog_14_method_41_code
def yX12_scene : MethodName := ⟨RX12, "scene", "(II)I"⟩
abbrev cX12_castNow : ByteArray := prog_14_method_42_code
def yX12_castNow : MethodName := ⟨RX12, "castNow", "()I"⟩
abbrev cX12_now : ByteArray := prog_14_method_43_code
def yX12_now : MethodName := ⟨RX12, "now", "(I)I"⟩
abbrev cX12_whyAlone : ByteArray := prog_14_method_44_code
def yX12_whyAlone : MethodName := ⟨RX12, "whyAlone", "(II)I"⟩
abbrev cX12_lacking : ByteArray := prog_14_method_45_code
def yX12_lacking : MethodName := ⟨RX12, "lacking", "(II)I"⟩
abbrev cX12_canAlone : ByteArray := prog_14_method_46_code
def yX12_canAlone : MethodName := ⟨RX12, "canAlone", "(II)Z"⟩
abbrev cX12_areTogether : ByteArray := prog_14_method_47_code
def yX12_areTogether : MethodName := ⟨RX12, "areTogether", "(II)Z"⟩
abbrev cX12_whyOf : ByteArray := prog_14_method_48_code
def yX12_whyOf : MethodName := ⟨RX12, "whyOf", "(II)I"⟩
abbrev cX12_why : ByteArray := prog_14_method_49_code
def yX12_why : MethodName := ⟨RX12, "why", "(II)I"⟩
abbrev cX12_cast : ByteArray := prog_14_method_50_code
def yX12_cast : MethodName := ⟨RX12, "cast", "(II)I"⟩
abbrev cX12_drop : ByteArray := prog_14_method_51_code
def yX12_drop : MethodName := ⟨RX12, "drop", "(I)I"⟩
abbrev cX12_canRise : ByteArray := prog_14_method_52_code
def yX12_canRise : MethodName := ⟨RX12, "canRise", "()Z"⟩
abbrev cX12_clapsFor : ByteArray := prog_14_method_53_code
def yX12_clapsFor : MethodName := ⟨RX12, "clapsFor", "(I)I"⟩
abbrev cX12_plays : ByteArray := prog_14_method_54_code
def yX12_plays : MethodName := ⟨RX12, "plays", "(II)V"⟩
abbrev cX12_rises : ByteArray := prog_14_method_55_code
def yX12_rises : MethodName := ⟨RX12, "rises", "()V"⟩
abbrev cX12_drops : ByteArray := prog_14_method_56_code
def yX12_drops : MethodName := ⟨RX12, "drops", "()V"⟩
abbrev cX12_curtain : ByteArray := prog_14_method_57_code
def yX12_curtain : MethodName := ⟨RX12, "curtain", "()I"⟩
abbrev cX12_canWhisper : ByteArray := prog_14_method_58_code
def yX12_canWhisper : MethodName := ⟨RX12, "canWhisper", "(II)Z"⟩
abbrev cX12_whispers : ByteArray := prog_14_method_59_code
def yX12_whispers : MethodName := ⟨RX12, "whispers", "(II)V"⟩
abbrev cX12_whisper : ByteArray := prog_14_method_60_code
def yX12_whisper : MethodName := ⟨RX12, "whisper", "(II)Z"⟩
abbrev cX12_keep : ByteArray := prog_14_method_61_code
def yX12_keep : MethodName := ⟨RX12, "keep", "()V"⟩
abbrev cX12_undo : ByteArray := prog_14_method_62_code
def yX12_undo : MethodName := ⟨RX12, "undo", "()I"⟩
abbrev cX12_tries : ByteArray := prog_14_method_63_code
def yX12_tries : MethodName := ⟨RX12, "tries", "()V"⟩
abbrev cX12_back : ByteArray := prog_14_method_64_code
def yX12_back : MethodName := ⟨RX12, "back", "()V"⟩
abbrev cX12_fits : ByteArray := prog_14_method_65_code
def yX12_fits : MethodName := ⟨RX12, "fits", "(IZ)Z"⟩
abbrev cX12_counts : ByteArray := prog_14_method_66_code
def yX12_counts : MethodName := ⟨RX12, "counts", "(II)V"⟩
abbrev cX12_castsBy : ByteArray := prog_14_method_67_code
def yX12_castsBy : MethodName := ⟨RX12, "castsBy", "(ZI)V"⟩
abbrev cX12_best : ByteArray := prog_14_method_68_code
def yX12_best : MethodName := ⟨RX12, "best", "()I"⟩
abbrev cX12_bestAs : ByteArray := prog_14_method_69_code
def yX12_bestAs : MethodName := ⟨RX12, "bestAs", "(I)I"⟩
abbrev cX12_casts : ByteArray := prog_14_method_70_code
def yX12_casts : MethodName := ⟨RX12, "casts", "()I"⟩
abbrev cX12_bowed : ByteArray := prog_14_method_71_code
def yX12_bowed : MethodName := ⟨RX12, "bowed", "(I)I"⟩
abbrev cX12_surely : ByteArray := prog_14_method_72_code
def yX12_surely : MethodName := ⟨RX12, "surely", "()I"⟩
abbrev cX12_least : ByteArray := prog_14_method_73_code
def yX12_least : MethodName := ⟨RX12, "least", "()I"⟩
abbrev cX12_whispers_ : ByteArray := prog_14_method_74_code
def yX12_whispers_ : MethodName := ⟨RX12, "whispers", "()I"⟩
abbrev cX12_lacks : ByteArray := prog_14_method_75_code
def yX12_lacks : MethodName := ⟨RX12, "lacks", "()I"⟩
abbrev cX12_suspectsBy : ByteArray := prog_14_method_76_code
def yX12_suspectsBy : MethodName := ⟨RX12, "suspectsBy", "(I)I"⟩
abbrev cX12_suspects : ByteArray := prog_14_method_77_code
def yX12_suspects : MethodName := ⟨RX12, "suspects", "(I)I"⟩
abbrev cX12_isSure : ByteArray := prog_14_method_78_code
def yX12_isSure : MethodName := ⟨RX12, "isSure", "(I)Z"⟩
abbrev cX12_sure : ByteArray := prog_14_method_79_code
def yX12_sure : MethodName := ⟨RX12, "sure", "()I"⟩
abbrev cX12_tells : ByteArray := prog_14_method_80_code
def yX12_tells : MethodName := ⟨RX12, "tells", "(I)I"⟩
abbrev cX12_wantOf : ByteArray := prog_14_method_81_code
def yX12_wantOf : MethodName := ⟨RX12, "wantOf", "(I)I"⟩
abbrev cX12_prices : ByteArray := prog_14_method_82_code
def yX12_prices : MethodName := ⟨RX12, "prices", "()I"⟩
abbrev cX12_price : ByteArray := prog_14_method_83_code
def yX12_price : MethodName := ⟨RX12, "price", "(I)I"⟩
abbrev cX12_wants : ByteArray := prog_14_method_84_code
def yX12_wants : MethodName := ⟨RX12, "wants", "(I)I"⟩
abbrev cX12_castsBest : ByteArray := prog_14_method_85_code
def yX12_castsBest : MethodName := ⟨RX12, "castsBest", "()Z"⟩
abbrev cX12_goesOnBy : ByteArray := prog_14_method_86_code
def yX12_goesOnBy : MethodName := ⟨RX12, "goesOnBy", "()I"⟩
abbrev cX12_goesOn : ByteArray := prog_14_method_87_code
def yX12_goesOn : MethodName := ⟨RX12, "goesOn", "()I"⟩
abbrev cX12_joy : ByteArray := prog_14_method_88_code
def yX12_joy : MethodName := ⟨RX12, "joy", "()I"⟩
abbrev cX12_valueOf : ByteArray := prog_14_method_89_code
def yX12_valueOf : MethodName := ⟨RX12, "valueOf", "(II)I"⟩
abbrev cX12_favourite : ByteArray := prog_14_method_90_code
def yX12_favourite : MethodName := ⟨RX12, "favourite", "(I)I"⟩
abbrev cX12_draw : ByteArray := prog_14_method_91_code
def yX12_draw : MethodName := ⟨RX12, "draw", "(I)I"⟩
abbrev cX12_draws : ByteArray := prog_14_method_92_code
def yX12_draws : MethodName := ⟨RX12, "draws", "(I)I"⟩
abbrev cX12_drawn : ByteArray := prog_14_method_93_code
def yX12_drawn : MethodName := ⟨RX12, "drawn", "(I)I"⟩
abbrev cX12_odds : ByteArray := prog_14_method_94_code
def yX12_odds : MethodName := ⟨RX12, "odds", "(II)I"⟩
abbrev cX12_bookLine : ByteArray := prog_14_method_95_code
def yX12_bookLine : MethodName := ⟨RX12, "bookLine", "()Z"⟩
abbrev cX12_does : ByteArray := prog_14_method_96_code
def yX12_does : MethodName := ⟨RX12, "does", "(I)I"⟩
abbrev cX12_book : ByteArray := prog_14_method_97_code
def yX12_book : MethodName := ⟨RX12, "book", "(I)I"⟩
abbrev cX12_booked : ByteArray := prog_14_method_98_code
def yX12_booked : MethodName := ⟨RX12, "booked", "(I)I"⟩
abbrev cX12_code : ByteArray := prog_14_method_99_code
def yX12_code : MethodName := ⟨RX12, "code", "(III)V"⟩
abbrev cX12_joins : ByteArray := prog_14_method_100_code
def yX12_joins : MethodName := ⟨RX12, "joins", "(I)V"⟩
abbrev cX12_nots : ByteArray := prog_14_method_101_code
def yX12_nots : MethodName := ⟨RX12, "nots", "()V"⟩
abbrev cX12_leafOf : ByteArray := prog_14_method_102_code
def yX12_leafOf : MethodName := ⟨RX12, "leafOf", "()I"⟩
abbrev cX12_operand : ByteArray := prog_14_method_103_code
def yX12_operand : MethodName := ⟨RX12, "operand", "()Z"⟩
abbrev cX12_behind : ByteArray := prog_14_method_104_code
def yX12_behind : MethodName := ⟨RX12, "behind", "()Z"⟩
abbrev cX12_sentence : ByteArray := prog_14_method_105_code
def yX12_sentence : MethodName := ⟨RX12, "sentence", "()I"⟩
abbrev cX12_isLeaf : ByteArray := prog_14_method_106_code
def yX12_isLeaf : MethodName := ⟨RX12, "isLeaf", "(IIII)Z"⟩
abbrev cX12_isSaid : ByteArray := prog_14_method_107_code
def yX12_isSaid : MethodName := ⟨RX12, "isSaid", "(I)Z"⟩
abbrev cX12_said : ByteArray := prog_14_method_108_code
def yX12_said : MethodName := ⟨RX12, "said", "(I)I"⟩
abbrev cX12_image : ByteArray := prog_14_method_109_code
def yX12_image : MethodName := ⟨RX12, "image", "(I)Z"⟩
abbrev cX12_restore : ByteArray := prog_14_method_110_code
def yX12_restore : MethodName := ⟨RX12, "restore", "(I)Z"⟩
abbrev cX12_count : ByteArray := prog_14_method_111_code
def yX12_count : MethodName := ⟨RX12, "count", "(I)I"⟩
def RJx145de : String := "java/io/Serializable"
def TJx145de : u_T := fun k => match k with
  | _ => ("", "", "", false)
def tyJx145de : Nat → FieldType := fun k => match k with
  | _ => .int
abbrev wsJx145de0 : List Cond := u_ws RJx145de TJx145de 0
theorem nmJx145de : ∀ a, a < 0 → ∀ b, b < 0 → a ≠ b → (TJx145de a).2.1 ≠ (TJx145de b).2.1 := by decide +kernel
theorem tyJx145de_ok : ∀ k, k < 0 → parseFieldDescriptor (TJx145de k).2.2.1 = some (tyJx145de k) := by decide +kernel
def RJx9f9b0 : String := "java/lang/CharSequence"
def TJx9f9b0 : u_T := fun k => match k with
  | _ => ("", "", "", false)
def tyJx9f9b0 : Nat → FieldType := fun k => match k with
  | _ => .int
abbrev wsJx9f9b00 : List Cond := u_ws RJx9f9b0 TJx9f9b0 0
theorem nmJx9f9b0 : ∀ a, a < 0 → ∀ b, b < 0 → a ≠ b → (TJx9f9b0 a).2.1 ≠ (TJx9f9b0 b).2.1 := by decide +kernel
theorem tyJx9f9b0_ok : ∀ k, k < 0 → parseFieldDescriptor (TJx9f9b0 k).2.2.1 = some (tyJx9f9b0 k) := by decide +kernel
def RJxb160c : String := "java/lang/Comparable"
def TJxb160c : u_T := fun k => match k with
  | _ => ("", "", "", false)
def tyJxb160c : Nat → FieldType := fun k => match k with
  | _ => .int
abbrev wsJxb160c0 : List Cond := u_ws RJxb160c TJxb160c 0
theorem nmJxb160c : ∀ a, a < 0 → ∀ b, b < 0 → a ≠ b → (TJxb160c a).2.1 ≠ (TJxb160c b).2.1 := by decide +kernel
theorem tyJxb160c_ok : ∀ k, k < 0 → parseFieldDescriptor (TJxb160c k).2.2.1 = some (tyJxb160c k) := by decide +kernel
def RJ6 : String := "java/lang/Integer"
def TJ6 : u_T := fun k => match k with
  | _ => ("", "", "", false)
def tyJ6 : Nat → FieldType := fun k => match k with
  | _ => .int
abbrev wsJ60 : List Cond := u_ws RJ6 TJ6 0
theorem nmJ6 : ∀ a, a < 0 → ∀ b, b < 0 → a ≠ b → (TJ6 a).2.1 ≠ (TJ6 b).2.1 := by decide +kernel
theorem tyJ6_ok : ∀ k, k < 0 → parseFieldDescriptor (TJ6 k).2.2.1 = some (tyJ6 k) := by decide +kernel
abbrev cJ6_bitCount_0f7a4 : ByteArray := prog_19_method_49_code
def yJ6_bitCount_0f7a4 : MethodName := ⟨RJ6, "bitCount", "(I)I"⟩
def RJ9 : String := "java/lang/Math"
def TJ9 : u_T := fun k => match k with
  | _ => ("", "", "", false)
def tyJ9 : Nat → FieldType := fun k => match k with
  | _ => .int
abbrev wsJ90 : List Cond := u_ws RJ9 TJ9 0
theorem nmJ9 : ∀ a, a < 0 → ∀ b, b < 0 → a ≠ b → (TJ9 a).2.1 ≠ (TJ9 b).2.1 := by decide +kernel
theorem tyJ9_ok : ∀ k, k < 0 → parseFieldDescriptor (TJ9 k).2.2.1 = some (tyJ9 k) := by decide +kernel
abbrev cJ9_abs_0f7a4 : ByteArray := prog_20_method_59_code
def yJ9_abs_0f7a4 : MethodName := ⟨RJ9, "abs", "(I)I"⟩
abbrev cJ9_min_7cf53 : ByteArray := prog_20_method_69_code
def yJ9_min_7cf53 : MethodName := ⟨RJ9, "min", "(II)I"⟩
def RJ0 : String := "java/lang/String"
def TJ0 : u_T := fun k => match k with
  | _ => ("", "", "", false)
def tyJ0 : Nat → FieldType := fun k => match k with
  | _ => .int
abbrev wsJ00 : List Cond := u_ws RJ0 TJ0 0
theorem nmJ0 : ∀ a, a < 0 → ∀ b, b < 0 → a ≠ b → (TJ0 a).2.1 ≠ (TJ0 b).2.1 := by decide +kernel
theorem tyJ0_ok : ∀ k, k < 0 → parseFieldDescriptor (TJ0 k).2.2.1 = some (tyJ0 k) := by decide +kernel
abbrev cJ0_length_8abf5 : ByteArray := prog_22_method_54_code
def yJ0_length_8abf5 : MethodName := ⟨RJ0, "length", "()I"⟩
abbrev cJ0_charAt_5068e : ByteArray := prog_22_method_56_code
def yJ0_charAt_5068e : MethodName := ⟨RJ0, "charAt", "(I)C"⟩
abbrev cJ0_coder_7d493 : ByteArray := prog_22_method_152_code
def yJ0_coder_7d493 : MethodName := ⟨RJ0, "coder", "()B"⟩
abbrev cJ0_isLatin1_aae02 : ByteArray := prog_22_method_154_code
def yJ0_isLatin1_aae02 : MethodName := ⟨RJ0, "isLatin1", "()Z"⟩
abbrev cJ0_checkIndex_df160 : ByteArray := prog_22_method_155_code
def yJ0_checkIndex_df160 : MethodName := ⟨RJ0, "checkIndex", "(II)V"⟩
def RJ1 : String := "java/lang/StringLatin1"
def TJ1 : u_T := fun k => match k with
  | _ => ("", "", "", false)
def tyJ1 : Nat → FieldType := fun k => match k with
  | _ => .int
abbrev wsJ10 : List Cond := u_ws RJ1 TJ1 0
theorem nmJ1 : ∀ a, a < 0 → ∀ b, b < 0 → a ≠ b → (TJ1 a).2.1 ≠ (TJ1 b).2.1 := by decide +kernel
theorem tyJ1_ok : ∀ k, k < 0 → parseFieldDescriptor (TJ1 k).2.2.1 = some (tyJ1 k) := by decide +kernel
abbrev cJ1_charAt_3b067 : ByteArray := prog_23_method_2_code
def yJ1_charAt_3b067 : MethodName := ⟨RJ1, "charAt", "([BI)C"⟩
def RJ2 : String := "java/lang/StringUTF16"
def TJ2 : u_T := fun k => match k with
  | _ => ("", "", "", false)
def tyJ2 : Nat → FieldType := fun k => match k with
  | _ => .int
abbrev wsJ20 : List Cond := u_ws RJ2 TJ2 0
theorem nmJ2 : ∀ a, a < 0 → ∀ b, b < 0 → a ≠ b → (TJ2 a).2.1 ≠ (TJ2 b).2.1 := by decide +kernel
theorem tyJ2_ok : ∀ k, k < 0 → parseFieldDescriptor (TJ2 k).2.2.1 = some (tyJ2 k) := by decide +kernel
abbrev cJ2_getChar_3b067 : ByteArray := prog_24_method_5_code
def yJ2_getChar_3b067 : MethodName := ⟨RJ2, "getChar", "([BI)C"⟩
abbrev cJ2_length_9d52b : ByteArray := prog_24_method_6_code
def yJ2_length_9d52b : MethodName := ⟨RJ2, "length", "([B)I"⟩
abbrev cJ2_charAt_3b067 : ByteArray := prog_24_method_83_code
def yJ2_charAt_3b067 : MethodName := ⟨RJ2, "charAt", "([BI)C"⟩
abbrev cJ2_checkIndex_2214a : ByteArray := prog_24_method_91_code
def yJ2_checkIndex_2214a : MethodName := ⟨RJ2, "checkIndex", "(I[B)V"⟩
def RJ10 : String := "java/lang/System"
def TJ10 : u_T := fun k => match k with
  | _ => ("", "", "", false)
def tyJ10 : Nat → FieldType := fun k => match k with
  | _ => .int
abbrev wsJ100 : List Cond := u_ws RJ10 TJ10 0
theorem nmJ10 : ∀ a, a < 0 → ∀ b, b < 0 → a ≠ b → (TJ10 a).2.1 ≠ (TJ10 b).2.1 := by decide +kernel
theorem tyJ10_ok : ∀ k, k < 0 → parseFieldDescriptor (TJ10 k).2.2.1 = some (tyJ10 k) := by decide +kernel
def RJxfd54e : String := "java/lang/constant/Constable"
def TJxfd54e : u_T := fun k => match k with
  | _ => ("", "", "", false)
def tyJxfd54e : Nat → FieldType := fun k => match k with
  | _ => .int
abbrev wsJxfd54e0 : List Cond := u_ws RJxfd54e TJxfd54e 0
theorem nmJxfd54e : ∀ a, a < 0 → ∀ b, b < 0 → a ≠ b → (TJxfd54e a).2.1 ≠ (TJxfd54e b).2.1 := by decide +kernel
theorem tyJxfd54e_ok : ∀ k, k < 0 → parseFieldDescriptor (TJxfd54e k).2.2.1 = some (tyJxfd54e k) := by decide +kernel
def RJx3cf43 : String := "java/lang/constant/ConstantDesc"
def TJx3cf43 : u_T := fun k => match k with
  | _ => ("", "", "", false)
def tyJx3cf43 : Nat → FieldType := fun k => match k with
  | _ => .int
abbrev wsJx3cf430 : List Cond := u_ws RJx3cf43 TJx3cf43 0
theorem nmJx3cf43 : ∀ a, a < 0 → ∀ b, b < 0 → a ≠ b → (TJx3cf43 a).2.1 ≠ (TJx3cf43 b).2.1 := by decide +kernel
theorem tyJx3cf43_ok : ∀ k, k < 0 → parseFieldDescriptor (TJx3cf43 k).2.2.1 = some (tyJx3cf43 k) := by decide +kernel
def RJ7 : String := "java/util/Arrays"
def TJ7 : u_T := fun k => match k with
  | _ => ("", "", "", false)
def tyJ7 : Nat → FieldType := fun k => match k with
  | _ => .int
abbrev wsJ70 : List Cond := u_ws RJ7 TJ7 0
theorem nmJ7 : ∀ a, a < 0 → ∀ b, b < 0 → a ≠ b → (TJ7 a).2.1 ≠ (TJ7 b).2.1 := by decide +kernel
theorem tyJ7_ok : ∀ k, k < 0 → parseFieldDescriptor (TJ7 k).2.2.1 = some (tyJ7 k) := by decide +kernel
abbrev cJ7_fill_53178 : ByteArray := prog_29_method_103_code
def yJ7_fill_53178 : MethodName := ⟨RJ7, "fill", "([II)V"⟩
def RJ3 : String := "jdk/internal/util/Preconditions"
def TJ3 : u_T := fun k => match k with
  | _ => ("", "", "", false)
def tyJ3 : Nat → FieldType := fun k => match k with
  | _ => .int
abbrev wsJ30 : List Cond := u_ws RJ3 TJ3 0
theorem nmJ3 : ∀ a, a < 0 → ∀ b, b < 0 → a ≠ b → (TJ3 a).2.1 ≠ (TJ3 b).2.1 := by decide +kernel
theorem tyJ3_ok : ∀ k, k < 0 → parseFieldDescriptor (TJ3 k).2.2.1 = some (tyJ3 k) := by decide +kernel
abbrev cJ3_checkIndex_8e157 : ByteArray := prog_31_method_11_code
def yJ3_checkIndex_8e157 : MethodName := ⟨RJ3, "checkIndex", "(IILjava/util/function/BiFunction;)I"⟩
def RL : String := "RecastStageLaw"
abbrev cL_man : ByteArray := method_3_code
def yL_man : MethodName := ⟨RL, "man", "(LRecastStage;II[J)I"⟩
abbrev cL_law : ByteArray := code
def yL_law : MethodName := ⟨RL, "law", "([I)Z"⟩
def wsL_law0_r1 : List Cond := [Cond.classLink RL 8 RX11, Cond.instantiable RX11 14, Cond.initialized RX11, Cond.classLink RL 16 RX12, Cond.instantiable RX12 54, Cond.initialized RX12, Cond.arrayClass .long, Cond.methodLink RL 15 yX11_init, Cond.instanceMethod yX11_init, Cond.code yX11_init cX11_init 2 none, Cond.methodLink RX11 1 objectInit, Cond.instanceMethod objectInit, Cond.code objectInit ⟨#[0xb1]⟩ 1 none, Cond.classLink RX11 7 RX8, Cond.instantiable RX8 11, Cond.initialized RX8, Cond.fieldLink RX11 10 "RecastStage" "reader" "LRecastStage$Reader;", Cond.classLink RX11 16 RX7, Cond.instantiable RX7 1, Cond.initialized RX7, Cond.fieldLink RX11 19 "RecastStage" "playReader" "LRecastStage$PlayReader;", Cond.classLink RX11 23 RX6, Cond.instantiable RX6 20, Cond.initialized RX6]
def wsL_law0_r2 : List Cond := [Cond.fieldLink RX11 26 "RecastStage" "play" "LRecastStage$Play;", Cond.classLink RX11 30 RX2, Cond.instantiable RX2 13, Cond.initialized RX2, Cond.fieldLink RX11 33 "RecastStage" "evening" "LRecastStage$Evening;", Cond.fieldLink RX11 37 "RecastStage" "trial" "LRecastStage$Evening;", Cond.classLink RX11 40 RX3, Cond.instantiable RX3 3, Cond.initialized RX3, Cond.fieldLink RX11 43 "RecastStage" "history" "LRecastStage$History;", Cond.classLink RX11 47 RX9, Cond.instantiable RX9 6, Cond.initialized RX9, Cond.fieldLink RX11 50 "RecastStage" "sentence" "LRecastStage$Sentence;", Cond.fieldLink RX11 54 "RecastStage" "newSentence" "LRecastStage$Sentence;", Cond.classLink RX11 57 RX1, Cond.instantiable RX1 13, Cond.initialized RX1, Cond.fieldLink RX11 60 "RecastStage" "casting" "LRecastStage$Casting;", Cond.classLink RX11 64 RX5, Cond.instantiable RX5 3, Cond.initialized RX5, Cond.fieldLink RX11 67 "RecastStage" "market" "LRecastStage$Market;", Cond.classLink RX11 71 RX0]
def wsL_law0_r3 : List Cond := [Cond.instantiable RX0 9, Cond.initialized RX0, Cond.fieldLink RX11 74 "RecastStage" "book" "LRecastStage$Book;", Cond.classLink RX11 78 RX4, Cond.fieldLink RX11 80 "RecastStage" "images" "[LRecastStage$Image;", Cond.arrayClass .int, Cond.fieldLink RX11 84 "RecastStage" "bestMen" "[I", Cond.fieldLink RX11 88 "RecastStage" "latestFault" "I", Cond.instantiable RX4 4, Cond.initialized RX4, Cond.methodLink RX11 9 yX8_init, Cond.instanceMethod yX8_init, Cond.code yX8_init cX8_init 1 none, Cond.methodLink RX8 3 objectInit, Cond.classLink RX8 9 RX10, Cond.instantiable RX10 2, Cond.initialized RX10, Cond.fieldLink RX8 12 "RecastStage$Reader" "tape" "LRecastStage$Tape;", Cond.fieldLink RX8 18 "RecastStage$Reader" "most" "I", Cond.fieldLink RX8 22 "RecastStage$Reader" "behind" "I", Cond.fieldLink RX8 25 "RecastStage$Reader" "kind" "I", Cond.fieldLink RX8 28 "RecastStage$Reader" "place" "I", Cond.fieldLink RX8 31 "RecastStage$Reader" "value" "I", Cond.fieldLink RX8 34 "RecastStage$Reader" "word" "I"]
def wsL_law0_r4 : List Cond := [Cond.fieldLink RX8 37 "RecastStage$Reader" "name" "J", Cond.fieldLink RX8 41 "RecastStage$Reader" "fault" "I", Cond.fieldLink RX8 44 "RecastStage$Reader" "faultPlace" "I", Cond.fieldLink RX8 53 "RecastStage$Reader" "reserved" "[J", Cond.instanceMethod yX10_init, Cond.code yX10_init cX10_init 1 none, Cond.methodLink RX10 3 objectInit, Cond.arrayClass .byte, Cond.fieldLink RX10 9 "RecastStage$Tape" "bytes" "[B", Cond.fieldLink RX10 15 "RecastStage$Tape" "length" "I", Cond.methodLink RX8 49 yX8_namesOf, Cond.static yX8_namesOf, Cond.code yX8_namesOf cX8_namesOf 5 (some (.array .long)), Cond.methodLink RX8 57 yJ0_length_8abf5, Cond.instanceMethod yJ0_length_8abf5, Cond.selects RJ0 yJ0_length_8abf5 yJ0_length_8abf5, Cond.initialized RJ0, Cond.code yJ0_length_8abf5 cJ0_length_8abf5 1 (some .int), Cond.fieldLink RJ0 9 "java/lang/String" "value" "[B", Cond.methodLink RJ0 335 yJ0_coder_7d493, Cond.instanceMethod yJ0_coder_7d493, Cond.selects RJ0 yJ0_coder_7d493 yJ0_coder_7d493, Cond.code yJ0_coder_7d493 cJ0_coder_7d493 1 (some .byte), Cond.fieldLink RJ0 38 "java/lang/String" "COMPACT_STRINGS" "Z"]
def wsL_law0_r5 : List Cond := [Cond.fieldLink RJ0 15 "java/lang/String" "coder" "B", Cond.methodLink RX8 63 yJ0_charAt_5068e, Cond.instanceMethod yJ0_charAt_5068e, Cond.selects RJ0 yJ0_charAt_5068e yJ0_charAt_5068e, Cond.code yJ0_charAt_5068e cJ0_charAt_5068e 2 (some .char), Cond.methodLink RJ0 492 yJ0_isLatin1_aae02, Cond.instanceMethod yJ0_isLatin1_aae02, Cond.selects RJ0 yJ0_isLatin1_aae02 yJ0_isLatin1_aae02, Cond.code yJ0_isLatin1_aae02 cJ0_isLatin1_aae02 1 (some .boolean), Cond.methodLink RJ0 495 yJ1_charAt_3b067, Cond.static yJ1_charAt_3b067, Cond.initialized RJ1, Cond.code yJ1_charAt_3b067 cJ1_charAt_3b067 2 (some .char), Cond.methodLink RJ1 9 yJ0_checkIndex_df160, Cond.static yJ0_checkIndex_df160, Cond.code yJ0_checkIndex_df160 cJ0_checkIndex_df160 2 none, Cond.fieldLink RJ0 1053 "jdk/internal/util/Preconditions" "SIOOBE_FORMATTER" "Ljava/util/function/BiFunction;", Cond.methodLink RJ0 1059 yJ3_checkIndex_8e157, Cond.static yJ3_checkIndex_8e157, Cond.initialized RJ3, Cond.code yJ3_checkIndex_8e157 cJ3_checkIndex_8e157 3 (some .int), Cond.methodLink RJ0 498 yJ2_charAt_3b067, Cond.static yJ2_charAt_3b067, Cond.initialized RJ2]
def wsL_law0_r6 : List Cond := [Cond.code yJ2_charAt_3b067 cJ2_charAt_3b067 2 (some .char), Cond.methodLink RJ2 67 yJ2_checkIndex_2214a, Cond.static yJ2_checkIndex_2214a, Cond.code yJ2_checkIndex_2214a cJ2_checkIndex_2214a 2 none, Cond.methodLink RJ2 48 yJ2_length_9d52b, Cond.static yJ2_length_9d52b, Cond.code yJ2_length_9d52b cJ2_length_9d52b 1 (some .int), Cond.methodLink RJ2 414 yJ0_checkIndex_df160, Cond.methodLink RJ2 71 yJ2_getChar_3b067, Cond.static yJ2_getChar_3b067, Cond.code yJ2_getChar_3b067 cJ2_getChar_3b067 2 (some .char), Cond.fieldLink RJ2 44 "java/lang/StringUTF16" "$assertionsDisabled" "Z", Cond.fieldLink RJ2 59 "java/lang/StringUTF16" "HI_BYTE_SHIFT" "I", Cond.fieldLink RJ2 63 "java/lang/StringUTF16" "LO_BYTE_SHIFT" "I", Cond.methodLink RX8 67 yX8_withLetter, Cond.static yX8_withLetter, Cond.code yX8_withLetter cX8_withLetter 3 (some .long), Cond.constantLong RX8 71 (32), Cond.instanceMethod yX7_init, Cond.code yX7_init cX7_init 1 none, Cond.methodLink RX7 3 objectInit, Cond.classLink RX7 9 RX6, Cond.fieldLink RX7 12 "RecastStage$PlayReader" "told" "LRecastStage$Play;", Cond.instanceMethod yX6_init]
def wsL_law0_r7 : List Cond := [Cond.code yX6_init cX6_init 1 none, Cond.methodLink RX6 3 objectInit, Cond.fieldLink RX6 9 "RecastStage$Play" "parts" "I", Cond.fieldLink RX6 15 "RecastStage$Play" "facts" "I", Cond.fieldLink RX6 18 "RecastStage$Play" "men" "I", Cond.fieldLink RX6 21 "RecastStage$Play" "acts" "I", Cond.fieldLink RX6 24 "RecastStage$Play" "scenes" "I", Cond.fieldLink RX6 27 "RecastStage$Play" "rest" "Z", Cond.fieldLink RX6 31 "RecastStage$Play" "partNames" "[J", Cond.fieldLink RX6 35 "RecastStage$Play" "factNames" "[J", Cond.fieldLink RX6 38 "RecastStage$Play" "manNames" "[J", Cond.fieldLink RX6 41 "RecastStage$Play" "partSkill" "[I", Cond.fieldLink RX6 45 "RecastStage$Play" "partNeeds" "[I", Cond.fieldLink RX6 48 "RecastStage$Play" "factClears" "[I", Cond.fieldLink RX6 51 "RecastStage$Play" "manSkill" "[I", Cond.fieldLink RX6 54 "RecastStage$Play" "manSeat" "[I", Cond.fieldLink RX6 57 "RecastStage$Play" "manNever" "[I", Cond.fieldLink RX6 60 "RecastStage$Play" "manFoes" "[I", Cond.fieldLink RX6 63 "RecastStage$Play" "likes" "[I", Cond.fieldLink RX6 66 "RecastStage$Play" "sceneAct" "[I", Cond.fieldLink RX6 69 "RecastStage$Play" "sceneParts" "[I", Cond.fieldLink RX6 72 "RecastStage$Play" "sceneFacts" "[I", Cond.methodLink RX11 32 yX2_init, Cond.instanceMethod yX2_init]
def wsL_law0_r8 : List Cond := [Cond.code yX2_init cX2_init 1 none, Cond.methodLink RX2 3 objectInit, Cond.fieldLink RX2 9 "RecastStage$Evening" "next" "I", Cond.fieldLink RX2 15 "RecastStage$Evening" "joySoFar" "I", Cond.fieldLink RX2 18 "RecastStage$Evening" "lossSoFar" "I", Cond.fieldLink RX2 21 "RecastStage$Evening" "whispered" "I", Cond.fieldLink RX2 24 "RecastStage$Evening" "money" "I", Cond.fieldLink RX2 27 "RecastStage$Evening" "clapsSoFar" "I", Cond.fieldLink RX2 30 "RecastStage$Evening" "ahead" "I", Cond.fieldLink RX2 33 "RecastStage$Evening" "ill" "I", Cond.fieldLink RX2 36 "RecastStage$Evening" "manAs" "[I", Cond.fieldLink RX2 40 "RecastStage$Evening" "lastAs" "[I", Cond.fieldLink RX2 43 "RecastStage$Evening" "known" "[I", Cond.fieldLink RX2 46 "RecastStage$Evening" "times" "[I", Cond.fieldLink RX2 49 "RecastStage$Evening" "clapsFor" "[I", Cond.methodLink RX2 52 yJ7_fill_53178, Cond.static yJ7_fill_53178, Cond.initialized RJ7, Cond.code yJ7_fill_53178 cJ7_fill_53178 4 none, Cond.methodLink RX11 42 yX3_init, Cond.instanceMethod yX3_init, Cond.code yX3_init cX3_init 2 none, Cond.methodLink RX3 3 objectInit, Cond.classLink RX3 9 RX2]
def wsL_law0_r9 : List Cond := [Cond.fieldLink RX3 11 "RecastStage$History" "evenings" "[LRecastStage$Evening;", Cond.fieldLink RX3 17 "RecastStage$History" "oldest" "I", Cond.fieldLink RX3 21 "RecastStage$History" "kept" "I", Cond.methodLink RX3 24 yX2_init, Cond.instanceMethod yX9_init, Cond.code yX9_init cX9_init 1 none, Cond.methodLink RX9 3 objectInit, Cond.fieldLink RX9 9 "RecastStage$Sentence" "ones" "I", Cond.fieldLink RX9 15 "RecastStage$Sentence" "steps" "I", Cond.fieldLink RX9 18 "RecastStage$Sentence" "kinds" "[I", Cond.fieldLink RX9 22 "RecastStage$Sentence" "signs" "[I", Cond.fieldLink RX9 25 "RecastStage$Sentence" "numbers" "[I", Cond.fieldLink RX9 28 "RecastStage$Sentence" "sets" "[I", Cond.instanceMethod yX1_init, Cond.code yX1_init cX1_init 1 none, Cond.methodLink RX1 3 objectInit, Cond.fieldLink RX1 9 "RecastStage$Casting" "men" "I", Cond.fieldLink RX1 15 "RecastStage$Casting" "foes" "[I", Cond.fieldLink RX1 19 "RecastStage$Casting" "levels" "I", Cond.fieldLink RX1 22 "RecastStage$Casting" "partAt" "[I", Cond.fieldLink RX1 25 "RecastStage$Casting" "ableAt" "[I", Cond.fieldLink RX1 28 "RecastStage$Casting" "besideAt" "[I", Cond.fieldLink RX1 31 "RecastStage$Casting" "costs" "[I", Cond.fieldLink RX1 34 "RecastStage$Casting" "cheapestFrom" "[I"]
def wsL_law0_r10 : List Cond := [Cond.fieldLink RX1 37 "RecastStage$Casting" "manAt" "[I", Cond.fieldLink RX1 40 "RecastStage$Casting" "foundAt" "[I", Cond.constant RX1 43 (1000000), Cond.fieldLink RX1 44 "RecastStage$Casting" "cheapest" "I", Cond.fieldLink RX1 47 "RecastStage$Casting" "total" "I", Cond.fieldLink RX1 50 "RecastStage$Casting" "always" "I", Cond.instanceMethod yX5_init, Cond.code yX5_init cX5_init 1 none, Cond.methodLink RX5 3 objectInit, Cond.fieldLink RX5 9 "RecastStage$Market" "told" "Z", Cond.fieldLink RX5 15 "RecastStage$Market" "priceOf" "[I", Cond.fieldLink RX5 19 "RecastStage$Market" "wantedBy" "[I", Cond.instanceMethod yX0_init, Cond.code yX0_init cX0_init 1 none, Cond.methodLink RX0 3 objectInit, Cond.fieldLink RX0 9 "RecastStage$Book" "lines" "I", Cond.fieldLink RX0 15 "RecastStage$Book" "deeds" "[I", Cond.fieldLink RX0 19 "RecastStage$Book" "men" "[I", Cond.fieldLink RX0 22 "RecastStage$Book" "things" "[I", Cond.fieldLink RX0 25 "RecastStage$Book" "judged" "Z", Cond.fieldLink RX0 29 "RecastStage$Book" "reason" "I", Cond.fieldLink RX0 32 "RecastStage$Book" "rightLines" "I", Cond.fieldLink RX0 35 "RecastStage$Book" "nextThen" "I", Cond.fieldLink RX0 38 "RecastStage$Book" "joyInIt" "I"]
def wsL_law0_r11 : List Cond := [Cond.instanceMethod yX4_init, Cond.code yX4_init cX4_init 1 none, Cond.methodLink RX4 1 objectInit, Cond.fieldLink RX4 7 "RecastStage$Image" "filled" "Z", Cond.classLink RX4 13 RX6, Cond.fieldLink RX4 16 "RecastStage$Image" "play" "LRecastStage$Play;", Cond.classLink RX4 20 RX2, Cond.fieldLink RX4 23 "RecastStage$Image" "evening" "LRecastStage$Evening;", Cond.classLink RX4 27 RX9, Cond.fieldLink RX4 30 "RecastStage$Image" "sentence" "LRecastStage$Sentence;", Cond.methodLink RX4 22 yX2_init, Cond.methodLink RX11 93 yJ7_fill_53178, Cond.methodLink RL 18 yX12_init, Cond.instanceMethod yX12_init, Cond.code yX12_init cX12_init 1 none, Cond.methodLink RX12 27 objectInit, Cond.fieldLink RX12 14 "RecastStageModel" "tape" "[B", Cond.fieldLink RX12 33 "RecastStageModel" "s" "[I", Cond.fieldLink RX12 37 "RecastStageModel" "h" "[I", Cond.fieldLink RX12 40 "RecastStageModel" "read" "[I", Cond.fieldLink RX12 43 "RecastStageModel" "names" "[J", Cond.fieldLink RX12 47 "RecastStageModel" "reserved" "[J", Cond.fieldLink RX12 50 "RecastStageModel" "undone" "[I", Cond.fieldLink RX12 53 "RecastStageModel" "before" "[I"]
def wsL_law0_r12 : List Cond := [Cond.fieldLink RX12 56 "RecastStageModel" "partAt" "[I", Cond.fieldLink RX12 59 "RecastStageModel" "manAt" "[I", Cond.fieldLink RX12 62 "RecastStageModel" "bestMan" "[I", Cond.fieldLink RX12 65 "RecastStageModel" "bestRow" "[I", Cond.fieldLink RX12 68 "RecastStageModel" "bestParts" "I", Cond.fieldLink RX12 71 "RecastStageModel" "price" "[I", Cond.fieldLink RX12 74 "RecastStageModel" "want" "[I", Cond.fieldLink RX12 77 "RecastStageModel" "asked" "[I", Cond.fieldLink RX12 80 "RecastStageModel" "priceParts" "I", Cond.fieldLink RX12 83 "RecastStageModel" "bookedAt" "[I", Cond.fieldLink RX12 86 "RecastStageModel" "stack" "[I", Cond.arrayClass .boolean, Cond.fieldLink RX12 89 "RecastStageModel" "truths" "[Z", Cond.fieldLink RX12 93 "RecastStageModel" "kept" "[I", Cond.fieldLink RX12 96 "RecastStageModel" "namesKept" "[J", Cond.fieldLink RX12 99 "RecastStageModel" "areKept" "[Z", Cond.constantLong RX12 102 (1885434484), Cond.constantLong RX12 104 (1717658484), Cond.constantLong RX12 106 (109317208502899), Cond.constantLong RX12 108 (7168366), Cond.constantLong RX12 110 (6382452), Cond.constantLong RX12 112 (495588830821), Cond.constantLong RX12 114 (495673374579), Cond.constantLong RX12 116 (474147546227)]
def wsL_law0_r13 : List Cond := [Cond.constantLong RX12 118 (465625113971), Cond.constantLong RX12 120 (474148660594), Cond.constantLong RX12 122 (1718576499), Cond.constantLong RX12 124 (1919251316), Cond.constantLong RX12 126 (24947), Cond.constantLong RX12 128 (33610324346168690), Cond.constantLong RX12 130 (27995157133617518), Cond.constantLong RX12 132 (1650815860), Cond.constantLong RX12 134 (28530), Cond.constantLong RX12 136 (6385252), Cond.constantLong RX12 138 (7237492), Cond.constantLong RX12 140 (482854664563), Cond.constantLong RX12 142 (125780054271332), Cond.constantLong RX12 144 (461414299507), Cond.constantLong RX12 146 (1937076837), Cond.constantLong RX12 148 (495723310188), Cond.constantLong RX12 150 (499984983411), Cond.constantLong RX12 152 (427020087411), Cond.constantLong RX12 154 (121450625394034), Cond.methodLink RL 19 yX11_feed, Cond.instanceMethod yX11_feed, Cond.selects RX11 yX11_feed yX11_feed, Cond.code yX11_feed cX11_feed 6 (some .int), Cond.fieldLink RX11 99 "RecastStage$Reader" "tape" "LRecastStage$Tape;"]
def wsL_law0_r14 : List Cond := [Cond.fieldLink RX11 113 "RecastStage$Tape" "length" "I", Cond.methodLink RX11 103 yX10_hasRoom, Cond.instanceMethod yX10_hasRoom, Cond.selects RX10 yX10_hasRoom yX10_hasRoom, Cond.code yX10_hasRoom cX10_hasRoom 2 (some .boolean), Cond.methodLink RX11 109 yX10_append, Cond.instanceMethod yX10_append, Cond.selects RX10 yX10_append yX10_append, Cond.code yX10_append cX10_append 2 none, Cond.methodLink RX10 19 yX10_hasRoom, Cond.methodLink RL 23 yX12_feed, Cond.instanceMethod yX12_feed, Cond.selects RX12 yX12_feed yX12_feed, Cond.code yX12_feed cX12_feed 6 (some .int), Cond.fieldLink RX12 1 "RecastStageModel" "thrown" "I", Cond.fieldLink RX12 7 "RecastStageModel" "length" "I", Cond.methodLink RX12 10 yX12_four, Cond.instanceMethod yX12_four, Cond.selects RX12 yX12_four yX12_four, Cond.code yX12_four cX12_four 3 none, Cond.methodLink RL 24 yX11_end, Cond.instanceMethod yX11_end, Cond.selects RX11 yX11_end yX11_end, Cond.code yX11_end cX11_end 2 (some .boolean)]
def wsL_law0_r15 : List Cond := [Cond.methodLink RL 28 yX12_end, Cond.instanceMethod yX12_end, Cond.selects RX12 yX12_end yX12_end, Cond.code yX12_end cX12_end 2 (some .boolean), Cond.methodLink RL 29 yX11_play, Cond.instanceMethod yX11_play, Cond.selects RX11 yX11_play yX11_play, Cond.code yX11_play cX11_play 2 (some .int), Cond.fieldLink RX11 123 "RecastStage$Reader" "fault" "I", Cond.fieldLink RX11 126 "RecastStage$Reader" "faultPlace" "I", Cond.fieldLink RX11 129 "RecastStage$PlayReader" "told" "LRecastStage$Play;", Cond.methodLink RX11 116 yX8_open, Cond.instanceMethod yX8_open, Cond.selects RX8 yX8_open yX8_open, Cond.code yX8_open cX8_open 2 none, Cond.methodLink RX8 73 yX8_step, Cond.instanceMethod yX8_step, Cond.selects RX8 yX8_step yX8_step, Cond.code yX8_step cX8_step 2 none, Cond.fieldLink RX8 76 "RecastStage$Tape" "length" "I", Cond.methodLink RX8 78 yX10_byteAt, Cond.instanceMethod yX10_byteAt, Cond.selects RX10 yX10_byteAt yX10_byteAt, Cond.code yX10_byteAt cX10_byteAt 2 (some .int)]
def wsL_law0_r16 : List Cond := [Cond.methodLink RX8 82 yX8_isBlank, Cond.static yX8_isBlank, Cond.code yX8_isBlank cX8_isBlank 1 (some .boolean), Cond.methodLink RX8 86 yX8_isLetter, Cond.static yX8_isLetter, Cond.code yX8_isLetter cX8_isLetter 1 (some .boolean), Cond.methodLink RX8 89 yX8_isDigit, Cond.static yX8_isDigit, Cond.code yX8_isDigit cX8_isDigit 1 (some .boolean), Cond.methodLink RX8 92 yX8_readRun, Cond.instanceMethod yX8_readRun, Cond.selects RX8 yX8_readRun yX8_readRun, Cond.code yX8_readRun cX8_readRun 4 none, Cond.methodLink RX8 98 yX8_indexOf, Cond.static yX8_indexOf, Cond.code yX8_indexOf cX8_indexOf 5 (some .int), Cond.methodLink RX8 95 yX8_isSign, Cond.static yX8_isSign, Cond.code yX8_isSign cX8_isSign 1 (some .boolean), Cond.methodLink RX11 119 yX7_read, Cond.instanceMethod yX7_read, Cond.selects RX7 yX7_read yX7_read, Cond.code yX7_read cX7_read 4 (some .int), Cond.fieldLink RX7 21 "RecastStage$Reader" "kind" "I"]
def wsL_law0_r17 : List Cond := [Cond.methodLink RX7 18 yX6_clear, Cond.instanceMethod yX6_clear, Cond.selects RX6 yX6_clear yX6_clear, Cond.code yX6_clear cX6_clear 1 none, Cond.methodLink RX6 75 yJ7_fill_53178, Cond.methodLink RX7 27 yX7_readLine, Cond.instanceMethod yX7_readLine, Cond.selects RX7 yX7_readLine yX7_readLine, Cond.code yX7_readLine cX7_readLine 2 none, Cond.methodLink RX7 39 yX8_wordHere, Cond.instanceMethod yX8_wordHere, Cond.selects RX8 yX8_wordHere yX8_wordHere, Cond.code yX8_wordHere cX8_wordHere 1 (some .int), Cond.methodLink RX7 43 yX7_readPart, Cond.instanceMethod yX7_readPart, Cond.selects RX7 yX7_readPart yX7_readPart, Cond.code yX7_readPart cX7_readPart 2 none, Cond.fieldLink RX7 100 "RecastStage$Play" "parts" "I", Cond.fieldLink RX7 107 "RecastStage$Play" "partNames" "[J", Cond.fieldLink RX7 115 "RecastStage$Play" "partSkill" "[I", Cond.methodLink RX7 103 yX7_takeOneOf, Cond.static yX7_takeOneOf, Cond.code yX7_takeOneOf cX7_takeOneOf 3 (some .boolean), Cond.methodLink RX7 79 yX8_fail]
def wsL_law0_r18 : List Cond := [Cond.instanceMethod yX8_fail, Cond.selects RX8 yX8_fail yX8_fail, Cond.code yX8_fail cX8_fail 2 none, Cond.methodLink RX7 82 yX8_step, Cond.methodLink RX7 111 yX7_takeNewName, Cond.instanceMethod yX7_takeNewName, Cond.selects RX7 yX7_takeNewName yX7_takeNewName, Cond.code yX7_takeNewName cX7_takeNewName 4 (some .boolean), Cond.fieldLink RX7 88 "RecastStage$Reader" "name" "J", Cond.methodLink RX7 85 yX8_isAtName, Cond.instanceMethod yX8_isAtName, Cond.selects RX8 yX8_isAtName yX8_isAtName, Cond.code yX8_isAtName cX8_isAtName 1 (some .boolean), Cond.methodLink RX7 92 yX6_hasName, Cond.instanceMethod yX6_hasName, Cond.selects RX6 yX6_hasName yX6_hasName, Cond.code yX6_hasName cX6_hasName 3 (some .boolean), Cond.methodLink RX6 87 yX8_indexOf, Cond.methodLink RX7 119 yX8_takeNumber, Cond.instanceMethod yX8_takeNumber, Cond.selects RX8 yX8_takeNumber yX8_takeNumber, Cond.code yX8_takeNumber cX8_takeNumber 4 (some .int), Cond.methodLink RX8 106 yX8_fail, Cond.methodLink RX7 46 yX7_readFact]
def wsL_law0_r19 : List Cond := [Cond.instanceMethod yX7_readFact, Cond.selects RX7 yX7_readFact yX7_readFact, Cond.code yX7_readFact cX7_readFact 2 none, Cond.fieldLink RX7 123 "RecastStage$Play" "facts" "I", Cond.fieldLink RX7 126 "RecastStage$Play" "factNames" "[J", Cond.methodLink RX7 49 yX7_readClears, Cond.instanceMethod yX7_readClears, Cond.selects RX7 yX7_readClears yX7_readClears, Cond.code yX7_readClears cX7_readClears 4 none, Cond.fieldLink RX7 136 "RecastStage$Play" "factClears" "[I", Cond.methodLink RX7 129 yX8_takeName, Cond.instanceMethod yX8_takeName, Cond.selects RX8 yX8_takeName yX8_takeName, Cond.code yX8_takeName cX8_takeName 4 (some .int), Cond.methodLink RX8 110 yX8_nameHere, Cond.instanceMethod yX8_nameHere, Cond.selects RX8 yX8_nameHere yX8_nameHere, Cond.code yX8_nameHere cX8_nameHere 4 (some .int), Cond.methodLink RX8 102 yX8_isAtName, Cond.methodLink RX7 133 yX8_nameHere, Cond.methodLink RX7 139 yX7_takeOnce, Cond.static yX7_takeOnce, Cond.code yX7_takeOnce cX7_takeOnce 3 (some .int), Cond.static yX11_has]
def wsL_law0_r20 : List Cond := [Cond.code yX11_has cX11_has 2 (some .boolean), Cond.methodLink RX7 52 yX7_readMan, Cond.instanceMethod yX7_readMan, Cond.selects RX7 yX7_readMan yX7_readMan, Cond.code yX7_readMan cX7_readMan 2 none, Cond.fieldLink RX7 143 "RecastStage$Play" "men" "I", Cond.fieldLink RX7 146 "RecastStage$Play" "manNames" "[J", Cond.fieldLink RX7 149 "RecastStage$Play" "manSkill" "[I", Cond.fieldLink RX7 152 "RecastStage$Play" "manSeat" "[I", Cond.methodLink RX7 31 yX8_isFine, Cond.instanceMethod yX8_isFine, Cond.selects RX8 yX8_isFine yX8_isFine, Cond.code yX8_isFine cX8_isFine 1 (some .boolean), Cond.methodLink RX7 55 yX7_readAct, Cond.instanceMethod yX7_readAct, Cond.selects RX7 yX7_readAct yX7_readAct, Cond.code yX7_readAct cX7_readAct 2 none, Cond.fieldLink RX7 155 "RecastStage$Play" "acts" "I", Cond.methodLink RX7 58 yX7_readScene, Cond.instanceMethod yX7_readScene, Cond.selects RX7 yX7_readScene yX7_readScene, Cond.code yX7_readScene cX7_readScene 5 none, Cond.fieldLink RX7 158 "RecastStage$Play" "scenes" "I", Cond.fieldLink RX7 161 "RecastStage$Play" "sceneAct" "[I"]
def wsL_law0_r21 : List Cond := [Cond.fieldLink RX7 168 "RecastStage$Play" "sceneParts" "[I", Cond.methodLink RX7 164 yX8_isAtSign, Cond.instanceMethod yX8_isAtSign, Cond.selects RX8 yX8_isAtSign yX8_isAtSign, Cond.code yX8_isAtSign cX8_isAtSign 2 (some .boolean), Cond.methodLink RX7 61 yX7_readShows, Cond.instanceMethod yX7_readShows, Cond.selects RX7 yX7_readShows yX7_readShows, Cond.code yX7_readShows cX7_readShows 4 none, Cond.fieldLink RX7 171 "RecastStage$Play" "sceneFacts" "[I", Cond.methodLink RX7 64 yX7_readNeeds, Cond.instanceMethod yX7_readNeeds, Cond.selects RX7 yX7_readNeeds yX7_readNeeds, Cond.code yX7_readNeeds cX7_readNeeds 4 none, Cond.fieldLink RX7 174 "RecastStage$Play" "partNeeds" "[I", Cond.methodLink RX7 67 yX7_readLikes, Cond.instanceMethod yX7_readLikes, Cond.selects RX7 yX7_readLikes yX7_readLikes, Cond.code yX7_readLikes cX7_readLikes 4 none, Cond.fieldLink RX7 180 "RecastStage$Play" "likes" "[I", Cond.methodLink RX7 177 yX6_liking, Cond.instanceMethod yX6_liking, Cond.selects RX6 yX6_liking yX6_liking, Cond.code yX6_liking cX6_liking 3 (some .int)]
def wsL_law0_r22 : List Cond := [Cond.methodLink RX7 70 yX7_readNever, Cond.instanceMethod yX7_readNever, Cond.selects RX7 yX7_readNever yX7_readNever, Cond.code yX7_readNever cX7_readNever 4 none, Cond.fieldLink RX7 183 "RecastStage$Play" "manNever" "[I", Cond.methodLink RX7 73 yX7_readFoes, Cond.instanceMethod yX7_readFoes, Cond.selects RX7 yX7_readFoes yX7_readFoes, Cond.code yX7_readFoes cX7_readFoes 4 none, Cond.fieldLink RX7 186 "RecastStage$Play" "manFoes" "[I", Cond.methodLink RX7 76 yX7_readRest, Cond.instanceMethod yX7_readRest, Cond.selects RX7 yX7_readRest yX7_readRest, Cond.code yX7_readRest cX7_readRest 2 none, Cond.fieldLink RX7 189 "RecastStage$Play" "rest" "Z", Cond.methodLink RX7 35 yX8_takeSign, Cond.instanceMethod yX8_takeSign, Cond.selects RX8 yX8_takeSign yX8_takeSign, Cond.code yX8_takeSign cX8_takeSign 2 none, Cond.methodLink RX8 114 yX8_isAtSign, Cond.methodLink RX11 132 yX6_copyFrom, Cond.instanceMethod yX6_copyFrom, Cond.selects RX6 yX6_copyFrom yX6_copyFrom, Cond.code yX6_copyFrom cX6_copyFrom 2 none]
def wsL_law0_r23 : List Cond := [Cond.methodLink RX6 81 arraycopyName, Cond.native arraycopyName, Cond.static arraycopyName, Cond.initialized "java/lang/System", Cond.methodLink RX11 136 yX2_begin, Cond.instanceMethod yX2_begin, Cond.selects RX2 yX2_begin yX2_begin, Cond.code yX2_begin cX2_begin 1 none, Cond.methodLink RX11 139 yX9_clear, Cond.instanceMethod yX9_clear, Cond.selects RX9 yX9_clear yX9_clear, Cond.code yX9_clear cX9_clear 1 none, Cond.methodLink RX11 142 yX3_forget, Cond.instanceMethod yX3_forget, Cond.selects RX3 yX3_forget yX3_forget, Cond.code yX3_forget cX3_forget 1 none, Cond.methodLink RL 33 yX12_play, Cond.instanceMethod yX12_play, Cond.selects RX12 yX12_play yX12_play, Cond.code yX12_play cX12_play 2 (some .int), Cond.fieldLink RX12 183 "RecastStageModel" "fault" "I", Cond.fieldLink RX12 245 "RecastStageModel" "lines" "I", Cond.fieldLink RX12 166 "RecastStageModel" "token" "I", Cond.fieldLink RX12 186 "RecastStageModel" "faultAt" "I"]
def wsL_law0_r24 : List Cond := [Cond.fieldLink RX12 254 "RecastStageModel" "undoMany" "I", Cond.methodLink RX12 242 yX12_taken, Cond.instanceMethod yX12_taken, Cond.selects RX12 yX12_taken yX12_taken, Cond.code yX12_taken cX12_taken 2 none, Cond.fieldLink RX12 18 "RecastStageModel" "size" "I", Cond.fieldLink RX12 21 "RecastStageModel" "p" "I", Cond.fieldLink RX12 24 "RecastStageModel" "limit" "I", Cond.methodLink RX12 195 yX12_go, Cond.instanceMethod yX12_go, Cond.selects RX12 yX12_go yX12_go, Cond.code yX12_go cX12_go 4 none, Cond.fieldLink RX12 160 "RecastStageModel" "at" "I", Cond.fieldLink RX12 163 "RecastStageModel" "span" "I", Cond.fieldLink RX12 176 "RecastStageModel" "number" "I", Cond.fieldLink RX12 179 "RecastStageModel" "word" "J", Cond.methodLink RX12 156 yX12_peek, Cond.instanceMethod yX12_peek, Cond.selects RX12 yX12_peek yX12_peek, Cond.code yX12_peek cX12_peek 1 (some .int), Cond.methodLink RX12 169 yX12_isSmall, Cond.static yX12_isSmall, Cond.code yX12_isSmall cX12_isSmall 1 (some .boolean), Cond.methodLink RX12 173 yX12_isDigit]
def wsL_law0_r25 : List Cond := [Cond.static yX12_isDigit, Cond.code yX12_isDigit cX12_isDigit 1 (some .boolean), Cond.methodLink RX12 248 yX12_line, Cond.instanceMethod yX12_line, Cond.selects RX12 yX12_line yX12_line, Cond.code yX12_line cX12_line 2 (some .boolean), Cond.fieldLink RX12 202 "RecastStageModel" "got" "I", Cond.methodLink RX12 220 yX12_isWord, Cond.instanceMethod yX12_isWord, Cond.selects RX12 yX12_isWord yX12_isWord, Cond.code yX12_isWord cX12_isWord 3 (some .boolean), Cond.methodLink RX12 192 yX12_bad, Cond.instanceMethod yX12_bad, Cond.selects RX12 yX12_bad yX12_bad, Cond.code yX12_bad cX12_bad 2 (some .boolean), Cond.methodLink RX12 224 yX12_fresh, Cond.instanceMethod yX12_fresh, Cond.selects RX12 yX12_fresh yX12_fresh, Cond.code yX12_fresh cX12_fresh 2 (some .boolean), Cond.methodLink RX12 205 yX12_isName, Cond.instanceMethod yX12_isName, Cond.selects RX12 yX12_isName yX12_isName, Cond.code yX12_isName cX12_isName 3 (some .boolean), Cond.methodLink RX12 209 yX12_find]
def wsL_law0_r26 : List Cond := [Cond.instanceMethod yX12_find, Cond.selects RX12 yX12_find yX12_find, Cond.code yX12_find cX12_find 4 (some .int), Cond.methodLink RX12 227 yX12_takes, Cond.instanceMethod yX12_takes, Cond.selects RX12 yX12_takes yX12_takes, Cond.code yX12_takes cX12_takes 3 (some .boolean), Cond.methodLink RX12 198 yX12_isIn, Cond.static yX12_isIn, Cond.code yX12_isIn cX12_isIn 3 (some .boolean), Cond.methodLink RX12 230 yX12_readScene, Cond.instanceMethod yX12_readScene, Cond.selects RX12 yX12_readScene yX12_readScene, Cond.code yX12_readScene cX12_readScene 2 (some .boolean), Cond.methodLink RX12 189 yX12_isSign, Cond.instanceMethod yX12_isSign, Cond.selects RX12 yX12_isSign yX12_isSign, Cond.code yX12_isSign cX12_isSign 2 (some .boolean), Cond.methodLink RX12 213 yX12_looksAt, Cond.instanceMethod yX12_looksAt, Cond.selects RX12 yX12_looksAt yX12_looksAt, Cond.code yX12_looksAt cX12_looksAt 3 (some .boolean), Cond.methodLink RX12 233 yX12_sets, Cond.instanceMethod yX12_sets]
def wsL_law0_r27 : List Cond := [Cond.selects RX12 yX12_sets yX12_sets, Cond.code yX12_sets cX12_sets 2 (some .boolean), Cond.methodLink RX12 217 yX12_bitOf, Cond.static yX12_bitOf, Cond.code yX12_bitOf cX12_bitOf 2 (some .boolean), Cond.methodLink RX12 236 yX12_pairs, Cond.instanceMethod yX12_pairs, Cond.selects RX12 yX12_pairs yX12_pairs, Cond.code yX12_pairs cX12_pairs 4 (some .boolean), Cond.methodLink RX12 239 yX12_takesName, Cond.instanceMethod yX12_takesName, Cond.selects RX12 yX12_takesName yX12_takesName, Cond.code yX12_takesName cX12_takesName 3 (some .boolean), Cond.methodLink RX12 251 yX12_sign, Cond.instanceMethod yX12_sign, Cond.selects RX12 yX12_sign yX12_sign, Cond.code yX12_sign cX12_sign 2 (some .boolean), Cond.methodLink RL 34 yX11_fault, Cond.instanceMethod yX11_fault, Cond.selects RX11 yX11_fault yX11_fault, Cond.code yX11_fault cX11_fault 1 (some .int), Cond.methodLink RL 37 yX12_fault, Cond.instanceMethod yX12_fault, Cond.selects RX12 yX12_fault yX12_fault]
def wsL_law0_r28 : List Cond := [Cond.code yX12_fault cX12_fault 1 (some .int), Cond.methodLink RL 38 yX11_part, Cond.instanceMethod yX11_part, Cond.selects RX11 yX11_part yX11_part, Cond.code yX11_part cX11_part 3 (some .int), Cond.fieldLink RX11 148 "RecastStage$Play" "partSkill" "[I", Cond.fieldLink RX11 151 "RecastStage$Play" "partNeeds" "[I", Cond.fieldLink RX11 154 "RecastStage$Evening" "manAs" "[I", Cond.fieldLink RX11 157 "RecastStage$Evening" "lastAs" "[I", Cond.methodLink RX11 145 yX6_hasPart, Cond.instanceMethod yX6_hasPart, Cond.selects RX6 yX6_hasPart yX6_hasPart, Cond.code yX6_hasPart cX6_hasPart 2 (some .boolean), Cond.methodLink RX11 160 yX6_actsWith, Cond.instanceMethod yX6_actsWith, Cond.selects RX6 yX6_actsWith yX6_actsWith, Cond.code yX6_actsWith cX6_actsWith 4 (some .int), Cond.methodLink RL 41 yX12_part, Cond.instanceMethod yX12_part, Cond.selects RX12 yX12_part yX12_part, Cond.code yX12_part cX12_part 5 (some .int), Cond.methodLink RX12 257 yX12_isPart, Cond.instanceMethod yX12_isPart, Cond.selects RX12 yX12_isPart yX12_isPart]
def wsL_law0_r29 : List Cond := [Cond.code yX12_isPart cX12_isPart 2 (some .boolean), Cond.methodLink RX12 260 yX12_partsOf, Cond.instanceMethod yX12_partsOf, Cond.selects RX12 yX12_partsOf yX12_partsOf, Cond.code yX12_partsOf cX12_partsOf 4 (some .int), Cond.methodLink RX12 264 yX12_castAs, Cond.instanceMethod yX12_castAs, Cond.selects RX12 yX12_castAs yX12_castAs, Cond.code yX12_castAs cX12_castAs 3 (some .int), Cond.methodLink RL 42 yL_man, Cond.static yL_man, Cond.initialized RL, Cond.codeWith yL_man cL_man 5 (some .int) [(0, 10, 13, 13)], Cond.classLink RL 13 "java/util/NoSuchElementException", Cond.methodLink RL 7 yX11_man, Cond.instanceMethod yX11_man, Cond.selects RX11 yX11_man yX11_man, Cond.code yX11_man cX11_man 3 (some .int), Cond.classLink RX11 167 "java/util/NoSuchElementException", Cond.initialized "java/util/NoSuchElementException", Cond.fieldLink RX11 170 "RecastStage$Play" "manSkill" "[I", Cond.fieldLink RX11 173 "RecastStage$Play" "manSeat" "[I", Cond.fieldLink RX11 179 "RecastStage$Evening" "known" "[I", Cond.fieldLink RX11 182 "RecastStage$Evening" "times" "[I"]
def wsL_law0_r30 : List Cond := [Cond.fieldLink RX11 185 "RecastStage$Evening" "clapsFor" "[I", Cond.fieldLink RX11 188 "RecastStage$Evening" "ahead" "I", Cond.fieldLink RX11 195 "RecastStage$Evening" "ill" "I", Cond.methodLink RX11 164 yX6_hasMan, Cond.instanceMethod yX6_hasMan, Cond.selects RX6 yX6_hasMan yX6_hasMan, Cond.code yX6_hasMan cX6_hasMan 2 (some .boolean), Cond.methodLink RX11 176 yX2_partOf, Cond.instanceMethod yX2_partOf, Cond.selects RX2 yX2_partOf yX2_partOf, Cond.code yX2_partOf cX2_partOf 3 (some .int), Cond.methodLink RX11 191 yX11_has, Cond.methodLink RL 47 yX12_man, Cond.instanceMethod yX12_man, Cond.selects RX12 yX12_man yX12_man, Cond.code yX12_man cX12_man 3 (some .int), Cond.methodLink RX12 267 yX12_isMan, Cond.instanceMethod yX12_isMan, Cond.selects RX12 yX12_isMan yX12_isMan, Cond.code yX12_isMan cX12_isMan 2 (some .boolean), Cond.methodLink RX12 270 yX12_throwsIf, Cond.instanceMethod yX12_throwsIf, Cond.selects RX12 yX12_throwsIf yX12_throwsIf, Cond.code yX12_throwsIf cX12_throwsIf 2 (some .boolean)]
def wsL_law0_r31 : List Cond := [Cond.methodLink RL 48 yX11_act, Cond.instanceMethod yX11_act, Cond.selects RX11 yX11_act yX11_act, Cond.code yX11_act cX11_act 3 (some .int), Cond.fieldLink RX11 198 "RecastStage$Play" "acts" "I", Cond.methodLink RX11 201 yX6_scenesOf, Cond.instanceMethod yX6_scenesOf, Cond.selects RX6 yX6_scenesOf yX6_scenesOf, Cond.code yX6_scenesOf cX6_scenesOf 4 (some .int), Cond.methodLink RX11 204 yX6_partsOf, Cond.instanceMethod yX6_partsOf, Cond.selects RX6 yX6_partsOf yX6_partsOf, Cond.code yX6_partsOf cX6_partsOf 4 (some .int), Cond.methodLink RX11 207 yX6_factsOf, Cond.instanceMethod yX6_factsOf, Cond.selects RX6 yX6_factsOf yX6_factsOf, Cond.code yX6_factsOf cX6_factsOf 4 (some .int), Cond.methodLink RL 51 yX12_act, Cond.instanceMethod yX12_act, Cond.selects RX12 yX12_act yX12_act, Cond.code yX12_act cX12_act 5 (some .int), Cond.methodLink RX12 274 yX12_factsOf, Cond.instanceMethod yX12_factsOf, Cond.selects RX12 yX12_factsOf yX12_factsOf]
def wsL_law0_r32 : List Cond := [Cond.code yX12_factsOf cX12_factsOf 4 (some .int), Cond.methodLink RL 52 yX11_scene, Cond.instanceMethod yX11_scene, Cond.selects RX11 yX11_scene yX11_scene, Cond.code yX11_scene cX11_scene 3 (some .int), Cond.fieldLink RX11 210 "RecastStage$Play" "scenes" "I", Cond.fieldLink RX11 213 "RecastStage$Play" "sceneAct" "[I", Cond.fieldLink RX11 216 "RecastStage$Play" "sceneParts" "[I", Cond.fieldLink RX11 219 "RecastStage$Play" "sceneFacts" "[I", Cond.methodLink RL 55 yX12_scene, Cond.instanceMethod yX12_scene, Cond.selects RX12 yX12_scene yX12_scene, Cond.code yX12_scene cX12_scene 3 (some .int), Cond.methodLink RL 56 yX11_now, Cond.instanceMethod yX11_now, Cond.selects RX11 yX11_now yX11_now, Cond.code yX11_now cX11_now 2 (some .int), Cond.fieldLink RX11 222 "RecastStage$Evening" "next" "I", Cond.fieldLink RX11 225 "RecastStage$Evening" "joySoFar" "I", Cond.fieldLink RX11 228 "RecastStage$Evening" "lossSoFar" "I", Cond.fieldLink RX11 235 "RecastStage$Evening" "whispered" "I", Cond.fieldLink RX11 238 "RecastStage$Evening" "money" "I", Cond.fieldLink RX11 241 "RecastStage$Evening" "clapsSoFar" "I", Cond.methodLink RX11 231 yX2_menOn]
def wsL_law0_r33 : List Cond := [Cond.instanceMethod yX2_menOn, Cond.selects RX2 yX2_menOn yX2_menOn, Cond.code yX2_menOn cX2_menOn 3 (some .int), Cond.methodLink RL 60 yX12_now, Cond.instanceMethod yX12_now, Cond.selects RX12 yX12_now yX12_now, Cond.code yX12_now cX12_now 2 (some .int), Cond.methodLink RX12 277 yX12_castNow, Cond.instanceMethod yX12_castNow, Cond.selects RX12 yX12_castNow yX12_castNow, Cond.code yX12_castNow cX12_castNow 3 (some .int), Cond.methodLink RL 61 yX11_why, Cond.instanceMethod yX11_why, Cond.selects RX11 yX11_why yX11_why, Cond.code yX11_why cX11_why 3 (some .int), Cond.methodLink RX11 244 yX2_whyNot, Cond.instanceMethod yX2_whyNot, Cond.selects RX2 yX2_whyNot yX2_whyNot, Cond.code yX2_whyNot cX2_whyNot 5 (some .int), Cond.methodLink RX2 69 yX2_whyUnfit, Cond.instanceMethod yX2_whyUnfit, Cond.selects RX2 yX2_whyUnfit yX2_whyUnfit, Cond.code yX2_whyUnfit cX2_whyUnfit 4 (some .int), Cond.fieldLink RX2 95 "RecastStage$Play" "manNever" "[I"]
def wsL_law0_r34 : List Cond := [Cond.fieldLink RX2 98 "RecastStage$Play" "manSkill" "[I", Cond.fieldLink RX2 101 "RecastStage$Play" "partSkill" "[I", Cond.fieldLink RX2 104 "RecastStage$Play" "rest" "Z", Cond.methodLink RX2 88 yX2_isOver, Cond.instanceMethod yX2_isOver, Cond.selects RX2 yX2_isOver yX2_isOver, Cond.code yX2_isOver cX2_isOver 2 (some .boolean), Cond.fieldLink RX2 64 "RecastStage$Play" "acts" "I", Cond.methodLink RX2 92 yX6_partsOf, Cond.methodLink RX2 108 yX2_unknownTo, Cond.instanceMethod yX2_unknownTo, Cond.selects RX2 yX2_unknownTo yX2_unknownTo, Cond.code yX2_unknownTo cX2_unknownTo 4 (some .int), Cond.fieldLink RX2 111 "RecastStage$Play" "partNeeds" "[I", Cond.methodLink RX2 73 yX2_partOf, Cond.methodLink RX2 77 yX2_meetsFoe, Cond.instanceMethod yX2_meetsFoe, Cond.selects RX2 yX2_meetsFoe yX2_meetsFoe, Cond.code yX2_meetsFoe cX2_meetsFoe 6 (some .boolean), Cond.fieldLink RX2 118 "RecastStage$Play" "parts" "I", Cond.fieldLink RX2 121 "RecastStage$Play" "manFoes" "[I", Cond.methodLink RX2 114 yX6_partsBeside, Cond.instanceMethod yX6_partsBeside, Cond.selects RX6 yX6_partsBeside yX6_partsBeside]
def wsL_law0_r35 : List Cond := [Cond.code yX6_partsBeside cX6_partsBeside 5 (some .int), Cond.methodLink RL 64 yX12_why, Cond.instanceMethod yX12_why, Cond.selects RX12 yX12_why yX12_why, Cond.code yX12_why cX12_why 3 (some .int), Cond.methodLink RX12 292 yX12_whyOf, Cond.instanceMethod yX12_whyOf, Cond.selects RX12 yX12_whyOf yX12_whyOf, Cond.code yX12_whyOf cX12_whyOf 5 (some .int), Cond.methodLink RX12 283 yX12_whyAlone, Cond.instanceMethod yX12_whyAlone, Cond.selects RX12 yX12_whyAlone yX12_whyAlone, Cond.code yX12_whyAlone cX12_whyAlone 3 (some .int), Cond.methodLink RX12 280 yX12_isOver, Cond.instanceMethod yX12_isOver, Cond.selects RX12 yX12_isOver yX12_isOver, Cond.code yX12_isOver cX12_isOver 1 (some .boolean), Cond.methodLink RX12 286 yX12_lacking, Cond.instanceMethod yX12_lacking, Cond.selects RX12 yX12_lacking yX12_lacking, Cond.code yX12_lacking cX12_lacking 3 (some .int), Cond.methodLink RX12 289 yX12_areTogether, Cond.instanceMethod yX12_areTogether, Cond.selects RX12 yX12_areTogether yX12_areTogether]
def wsL_law0_r36 : List Cond := [Cond.code yX12_areTogether cX12_areTogether 4 (some .boolean), Cond.methodLink RL 65 yX11_cast, Cond.instanceMethod yX11_cast, Cond.selects RX11 yX11_cast yX11_cast, Cond.code yX11_cast cX11_cast 4 (some .int), Cond.methodLink RX11 248 yX3_keep, Cond.instanceMethod yX3_keep, Cond.selects RX3 yX3_keep yX3_keep, Cond.code yX3_keep cX3_keep 2 none, Cond.methodLink RX3 25 yX2_copyFrom, Cond.instanceMethod yX2_copyFrom, Cond.selects RX2 yX2_copyFrom yX2_copyFrom, Cond.code yX2_copyFrom cX2_copyFrom 2 none, Cond.methodLink RX2 58 arraycopyName, Cond.methodLink RL 68 yX12_cast, Cond.instanceMethod yX12_cast, Cond.selects RX12 yX12_cast yX12_cast, Cond.code yX12_cast cX12_cast 4 (some .int), Cond.methodLink RX12 295 yX12_keep, Cond.instanceMethod yX12_keep, Cond.selects RX12 yX12_keep yX12_keep, Cond.code yX12_keep cX12_keep 2 none, Cond.methodLink RL 69 yX11_drop, Cond.instanceMethod yX11_drop]
def wsL_law0_r37 : List Cond := [Cond.selects RX11 yX11_drop yX11_drop, Cond.code yX11_drop cX11_drop 3 (some .int), Cond.methodLink RL 72 yX12_drop, Cond.instanceMethod yX12_drop, Cond.selects RX12 yX12_drop yX12_drop, Cond.code yX12_drop cX12_drop 3 (some .int), Cond.methodLink RL 73 yX11_curtain, Cond.instanceMethod yX11_curtain, Cond.selects RX11 yX11_curtain yX11_curtain, Cond.code yX11_curtain cX11_curtain 1 (some .int), Cond.methodLink RX11 252 yX2_canEndAct, Cond.instanceMethod yX2_canEndAct, Cond.selects RX2 yX2_canEndAct yX2_canEndAct, Cond.code yX2_canEndAct cX2_canEndAct 4 (some .boolean), Cond.methodLink RX11 256 yX2_endAct, Cond.instanceMethod yX2_endAct, Cond.selects RX2 yX2_endAct yX2_endAct, Cond.code yX2_endAct cX2_endAct 4 none, Cond.fieldLink RX2 124 "RecastStage$Play" "men" "I", Cond.fieldLink RX2 135 "RecastStage$Play" "manSeat" "[I", Cond.methodLink RX2 131 yX2_menOn, Cond.methodLink RX2 138 yX2_clap, Cond.instanceMethod yX2_clap, Cond.selects RX2 yX2_clap yX2_clap]
def wsL_law0_r38 : List Cond := [Cond.code yX2_clap cX2_clap 6 none, Cond.methodLink RX2 145 yX6_liking, Cond.methodLink RX2 142 yX2_learn, Cond.instanceMethod yX2_learn, Cond.selects RX2 yX2_learn yX2_learn, Cond.code yX2_learn cX2_learn 5 none, Cond.fieldLink RX2 159 "RecastStage$Play" "scenes" "I", Cond.fieldLink RX2 162 "RecastStage$Play" "sceneAct" "[I", Cond.fieldLink RX2 165 "RecastStage$Play" "sceneParts" "[I", Cond.fieldLink RX2 168 "RecastStage$Play" "sceneFacts" "[I", Cond.methodLink RX2 148 yX2_lossBy, Cond.instanceMethod yX2_lossBy, Cond.selects RX2 yX2_lossBy yX2_lossBy, Cond.code yX2_lossBy cX2_lossBy 4 (some .int), Cond.methodLink RX2 154 Lib.Math.abs.name, Cond.static Lib.Math.abs.name, Cond.initialized "java/lang/Math", Cond.code Lib.Math.abs.name Lib.Math.abs.code 1 (some .int), Cond.methodLink RX2 151 yX2_sendOff, Cond.instanceMethod yX2_sendOff, Cond.selects RX2 yX2_sendOff yX2_sendOff, Cond.code yX2_sendOff cX2_sendOff 1 none, Cond.methodLink RL 76 yX12_curtain, Cond.instanceMethod yX12_curtain]
def wsL_law0_r39 : List Cond := [Cond.selects RX12 yX12_curtain yX12_curtain, Cond.code yX12_curtain cX12_curtain 1 (some .int), Cond.methodLink RX12 311 yX12_canRise, Cond.instanceMethod yX12_canRise, Cond.selects RX12 yX12_canRise yX12_canRise, Cond.code yX12_canRise cX12_canRise 3 (some .boolean), Cond.methodLink RX12 314 yX12_rises, Cond.instanceMethod yX12_rises, Cond.selects RX12 yX12_rises yX12_rises, Cond.code yX12_rises cX12_rises 3 none, Cond.methodLink RX12 301 yX12_clapsFor, Cond.instanceMethod yX12_clapsFor, Cond.selects RX12 yX12_clapsFor yX12_clapsFor, Cond.code yX12_clapsFor cX12_clapsFor 4 (some .int), Cond.methodLink RX12 304 yX12_plays, Cond.instanceMethod yX12_plays, Cond.selects RX12 yX12_plays yX12_plays, Cond.code yX12_plays cX12_plays 5 none, Cond.methodLink RX12 298 yX12_off, Cond.static yX12_off, Cond.code yX12_off cX12_off 2 (some .int), Cond.methodLink RX12 308 yX12_drops, Cond.instanceMethod yX12_drops, Cond.selects RX12 yX12_drops yX12_drops]
def wsL_law0_r40 : List Cond := [Cond.code yX12_drops cX12_drops 2 none, Cond.methodLink RL 77 yX11_whisper, Cond.instanceMethod yX11_whisper, Cond.selects RX11 yX11_whisper yX11_whisper, Cond.code yX11_whisper cX11_whisper 3 (some .boolean), Cond.methodLink RX11 259 yX6_hasFact, Cond.instanceMethod yX6_hasFact, Cond.selects RX6 yX6_hasFact yX6_hasFact, Cond.code yX6_hasFact cX6_hasFact 2 (some .boolean), Cond.methodLink RX11 262 yX2_canTell, Cond.instanceMethod yX2_canTell, Cond.selects RX2 yX2_canTell yX2_canTell, Cond.code yX2_canTell cX2_canTell 4 (some .boolean), Cond.methodLink RX11 266 yX2_tell, Cond.instanceMethod yX2_tell, Cond.selects RX2 yX2_tell yX2_tell, Cond.code yX2_tell cX2_tell 3 none, Cond.methodLink RL 81 yX12_whisper, Cond.instanceMethod yX12_whisper, Cond.selects RX12 yX12_whisper yX12_whisper, Cond.code yX12_whisper cX12_whisper 3 (some .boolean), Cond.methodLink RX12 317 yX12_canWhisper, Cond.instanceMethod yX12_canWhisper, Cond.selects RX12 yX12_canWhisper yX12_canWhisper]
def wsL_law0_r41 : List Cond := [Cond.code yX12_canWhisper cX12_canWhisper 3 (some .boolean), Cond.methodLink RX12 320 yX12_whispers, Cond.instanceMethod yX12_whispers, Cond.selects RX12 yX12_whispers yX12_whispers, Cond.code yX12_whispers cX12_whispers 3 none, Cond.methodLink RL 82 yX11_undo, Cond.instanceMethod yX11_undo, Cond.selects RX11 yX11_undo yX11_undo, Cond.code yX11_undo cX11_undo 1 (some .int), Cond.fieldLink RX11 274 "RecastStage$History" "kept" "I", Cond.methodLink RX11 270 yX3_takeBack, Cond.instanceMethod yX3_takeBack, Cond.selects RX3 yX3_takeBack yX3_takeBack, Cond.code yX3_takeBack cX3_takeBack 2 (some .boolean), Cond.methodLink RL 85 yX12_undo, Cond.instanceMethod yX12_undo, Cond.selects RX12 yX12_undo yX12_undo, Cond.code yX12_undo cX12_undo 2 (some .int), Cond.methodLink RL 86 yX11_best, Cond.instanceMethod yX11_best, Cond.selects RX11 yX11_best yX11_best, Cond.code yX11_best cX11_best 1 (some .int), Cond.methodLink RX11 277 yX1_findBest, Cond.instanceMethod yX1_findBest]
def wsL_law0_r42 : List Cond := [Cond.selects RX1 yX1_findBest yX1_findBest, Cond.code yX1_findBest cX1_findBest 5 (some .boolean), Cond.fieldLink RX1 53 "RecastStage$Play" "men" "I", Cond.methodLink RX1 100 yX1_prepare, Cond.instanceMethod yX1_prepare, Cond.selects RX1 yX1_prepare yX1_prepare, Cond.code yX1_prepare cX1_prepare 6 (some .boolean), Cond.fieldLink RX1 56 "RecastStage$Play" "manFoes" "[I", Cond.methodLink RX1 59 arraycopyName, Cond.fieldLink RX1 71 "RecastStage$Evening" "next" "I", Cond.fieldLink RX1 78 "RecastStage$Play" "parts" "I", Cond.methodLink RX1 65 yX2_isOver, Cond.methodLink RX1 74 yX6_partsOf, Cond.methodLink RX1 85 yX1_ableMen, Cond.static yX1_ableMen, Cond.code yX1_ableMen cX1_ableMen 8 (some .int), Cond.fieldLink RX1 97 "RecastStage$Evening" "ill" "I", Cond.methodLink RX1 93 yX2_whyUnfit, Cond.methodLink RX1 89 yX6_partsBeside, Cond.methodLink RX1 104 yX6_liking, Cond.methodLink RX1 107 yX1_findCheapest, Cond.instanceMethod yX1_findCheapest, Cond.selects RX1 yX1_findCheapest yX1_findCheapest, Cond.code yX1_findCheapest cX1_findCheapest 2 (some .boolean)]
def wsL_law0_r43 : List Cond := [Cond.methodLink RX1 128 yX1_cheapestAt, Cond.instanceMethod yX1_cheapestAt, Cond.selects RX1 yX1_cheapestAt yX1_cheapestAt, Cond.code yX1_cheapestAt cX1_cheapestAt 4 (some .int), Cond.constant RX1 135 (2000000), Cond.methodLink RX1 136 Lib.Math.min.name, Cond.static Lib.Math.min.name, Cond.code Lib.Math.min.name Lib.Math.min.code 2 (some .int), Cond.methodLink RX1 131 yX1_seekCheapest, Cond.instanceMethod yX1_seekCheapest, Cond.selects RX1 yX1_seekCheapest yX1_seekCheapest, Cond.code yX1_seekCheapest cX1_seekCheapest 6 none, Cond.methodLink RX1 141 yX1_freeMen, Cond.instanceMethod yX1_freeMen, Cond.selects RX1 yX1_freeMen yX1_freeMen, Cond.code yX1_freeMen cX1_freeMen 5 (some .int), Cond.methodLink RX11 281 yX1_castInto, Cond.instanceMethod yX1_castInto, Cond.selects RX1 yX1_castInto yX1_castInto, Cond.code yX1_castInto cX1_castInto 3 none, Cond.methodLink RX1 111 yJ7_fill_53178, Cond.methodLink RX11 285 yX1_joyOfBest, Cond.instanceMethod yX1_joyOfBest, Cond.selects RX1 yX1_joyOfBest yX1_joyOfBest]
def wsL_law0_r44 : List Cond := [Cond.code yX1_joyOfBest cX1_joyOfBest 1 (some .int), Cond.methodLink RL 89 yX12_best, Cond.instanceMethod yX12_best, Cond.selects RX12 yX12_best yX12_best, Cond.code yX12_best cX12_best 2 (some .int), Cond.fieldLink RX12 329 "RecastStageModel" "castMany" "I", Cond.fieldLink RX12 344 "RecastStageModel" "bestJoy" "I", Cond.methodLink RX12 354 yX12_castsBy, Cond.instanceMethod yX12_castsBy, Cond.selects RX12 yX12_castsBy yX12_castsBy, Cond.code yX12_castsBy cX12_castsBy 5 none, Cond.fieldLink RX12 341 "RecastStageModel" "bowedMany" "I", Cond.methodLink RX12 347 yX12_counts, Cond.instanceMethod yX12_counts, Cond.selects RX12 yX12_counts yX12_counts, Cond.code yX12_counts cX12_counts 10 none, Cond.fieldLink RX12 332 "RecastStageModel" "fewest" "I", Cond.fieldLink RX12 335 "RecastStageModel" "leastLoss" "I", Cond.fieldLink RX12 338 "RecastStageModel" "inAll" "I", Cond.methodLink RX12 326 yX12_bits, Cond.static yX12_bits, Cond.code yX12_bits cX12_bits 3 (some .int), Cond.methodLink RX12 350 yX12_fits, Cond.instanceMethod yX12_fits]
def wsL_law0_r45 : List Cond := [Cond.selects RX12 yX12_fits yX12_fits, Cond.code yX12_fits cX12_fits 5 (some .boolean), Cond.methodLink RX12 323 yX12_canAlone, Cond.instanceMethod yX12_canAlone, Cond.selects RX12 yX12_canAlone yX12_canAlone, Cond.code yX12_canAlone cX12_canAlone 3 (some .boolean), Cond.methodLink RL 90 yX11_bestAs, Cond.instanceMethod yX11_bestAs, Cond.selects RX11 yX11_bestAs yX11_bestAs, Cond.code yX11_bestAs cX11_bestAs 2 (some .int), Cond.methodLink RL 93 yX12_bestAs, Cond.instanceMethod yX12_bestAs, Cond.selects RX12 yX12_bestAs yX12_bestAs, Cond.code yX12_bestAs cX12_bestAs 2 (some .int), Cond.methodLink RL 94 yX11_casts, Cond.instanceMethod yX11_casts, Cond.selects RX11 yX11_casts yX11_casts, Cond.code yX11_casts cX11_casts 1 (some .int), Cond.methodLink RX11 288 yX6_allMen, Cond.instanceMethod yX6_allMen, Cond.selects RX6 yX6_allMen yX6_allMen, Cond.code yX6_allMen cX6_allMen 1 (some .int), Cond.methodLink RX11 291 yX1_countBy, Cond.instanceMethod yX1_countBy]
def wsL_law0_r46 : List Cond := [Cond.selects RX1 yX1_countBy yX1_countBy, Cond.code yX1_countBy cX1_countBy 5 (some .int), Cond.methodLink RX1 144 yX6_allMen, Cond.methodLink RX1 148 yX1_seekAll, Cond.instanceMethod yX1_seekAll, Cond.selects RX1 yX1_seekAll yX1_seekAll, Cond.code yX1_seekAll cX1_seekAll 5 none, Cond.methodLink RX1 152 yX1_addLast, Cond.instanceMethod yX1_addLast, Cond.selects RX1 yX1_addLast yX1_addLast, Cond.code yX1_addLast cX1_addLast 4 none, Cond.methodLink RX1 123 yJ6_bitCount_0f7a4, Cond.static yJ6_bitCount_0f7a4, Cond.initialized RJ6, Cond.code yJ6_bitCount_0f7a4 cJ6_bitCount_0f7a4 1 (some .int), Cond.constant RJ6 265 (1431655765), Cond.constant RJ6 266 (858993459), Cond.constant RJ6 267 (252645135), Cond.methodLink RL 97 yX12_casts, Cond.instanceMethod yX12_casts, Cond.selects RX12 yX12_casts yX12_casts, Cond.code yX12_casts cX12_casts 1 (some .int), Cond.methodLink RL 98 yX11_bowed, Cond.instanceMethod yX11_bowed]
def wsL_law0_r47 : List Cond := [Cond.selects RX11 yX11_bowed yX11_bowed, Cond.code yX11_bowed cX11_bowed 3 (some .int), Cond.methodLink RX11 295 yX2_isOver, Cond.methodLink RX11 298 yJ6_bitCount_0f7a4, Cond.methodLink RL 101 yX12_bowed, Cond.instanceMethod yX12_bowed, Cond.selects RX12 yX12_bowed yX12_bowed, Cond.code yX12_bowed cX12_bowed 2 (some .int), Cond.methodLink RL 102 yX11_surely, Cond.instanceMethod yX11_surely, Cond.selects RX11 yX11_surely yX11_surely, Cond.code yX11_surely cX11_surely 1 (some .int), Cond.fieldLink RX11 303 "RecastStage$Casting" "always" "I", Cond.methodLink RL 105 yX12_surely, Cond.instanceMethod yX12_surely, Cond.selects RX12 yX12_surely yX12_surely, Cond.code yX12_surely cX12_surely 1 (some .int), Cond.methodLink RL 106 yX11_lacks, Cond.instanceMethod yX11_lacks, Cond.selects RX11 yX11_lacks yX11_lacks, Cond.code yX11_lacks cX11_lacks 1 (some .int), Cond.methodLink RX11 306 yX1_shortSet, Cond.instanceMethod yX1_shortSet, Cond.selects RX1 yX1_shortSet yX1_shortSet]
def wsL_law0_r48 : List Cond := [Cond.code yX1_shortSet cX1_shortSet 6 (some .int), Cond.methodLink RX1 155 yX1_ableForAny, Cond.instanceMethod yX1_ableForAny, Cond.selects RX1 yX1_ableForAny yX1_ableForAny, Cond.code yX1_ableForAny cX1_ableForAny 4 (some .int), Cond.methodLink RX1 158 yX1_partsAt, Cond.instanceMethod yX1_partsAt, Cond.selects RX1 yX1_partsAt yX1_partsAt, Cond.code yX1_partsAt cX1_partsAt 4 (some .int), Cond.methodLink RL 109 yX12_lacks, Cond.instanceMethod yX12_lacks, Cond.selects RX12 yX12_lacks yX12_lacks, Cond.code yX12_lacks cX12_lacks 7 (some .int), Cond.methodLink RL 110 yX11_least, Cond.instanceMethod yX11_least, Cond.selects RX11 yX11_least yX11_least, Cond.code yX11_least cX11_least 1 (some .int), Cond.methodLink RX11 310 yX1_leastLoss, Cond.instanceMethod yX1_leastLoss, Cond.selects RX1 yX1_leastLoss yX1_leastLoss, Cond.code yX1_leastLoss cX1_leastLoss 5 (some .int), Cond.methodLink RX1 117 yX2_lossBy, Cond.methodLink RL 113 yX12_least, Cond.instanceMethod yX12_least]
def wsL_law0_r49 : List Cond := [Cond.selects RX12 yX12_least yX12_least, Cond.code yX12_least cX12_least 1 (some .int), Cond.methodLink RL 114 yX11_whispers, Cond.instanceMethod yX11_whispers, Cond.selects RX11 yX11_whispers yX11_whispers, Cond.code yX11_whispers cX11_whispers 1 (some .int), Cond.methodLink RX11 313 yX1_fewestWhispers, Cond.instanceMethod yX1_fewestWhispers, Cond.selects RX1 yX1_fewestWhispers yX1_fewestWhispers, Cond.code yX1_fewestWhispers cX1_fewestWhispers 5 (some .int), Cond.methodLink RX1 120 yX2_unknownTo, Cond.methodLink RL 117 yX12_whispers_, Cond.instanceMethod yX12_whispers_, Cond.selects RX12 yX12_whispers_ yX12_whispers_, Cond.code yX12_whispers_ cX12_whispers_ 1 (some .int), Cond.methodLink RL 118 yX11_suspects, Cond.instanceMethod yX11_suspects, Cond.selects RX11 yX11_suspects yX11_suspects, Cond.code yX11_suspects cX11_suspects 2 (some .int), Cond.methodLink RX11 316 yX6_suspectsWith, Cond.instanceMethod yX6_suspectsWith, Cond.selects RX6 yX6_suspectsWith yX6_suspectsWith, Cond.code yX6_suspectsWith cX6_suspectsWith 4 (some .int), Cond.methodLink RL 121 yX12_suspects]
def wsL_law0_r50 : List Cond := [Cond.instanceMethod yX12_suspects, Cond.selects RX12 yX12_suspects yX12_suspects, Cond.code yX12_suspects cX12_suspects 2 (some .int), Cond.methodLink RX12 358 yX12_suspectsBy, Cond.instanceMethod yX12_suspectsBy, Cond.selects RX12 yX12_suspectsBy yX12_suspectsBy, Cond.code yX12_suspectsBy cX12_suspectsBy 4 (some .int), Cond.methodLink RL 122 yX11_sure, Cond.instanceMethod yX11_sure, Cond.selects RX11 yX11_sure yX11_sure, Cond.code yX11_sure cX11_sure 1 (some .int), Cond.methodLink RX11 319 yX2_sureMen, Cond.instanceMethod yX2_sureMen, Cond.selects RX2 yX2_sureMen yX2_sureMen, Cond.code yX2_sureMen cX2_sureMen 4 (some .int), Cond.methodLink RX2 127 yX6_isSureWith, Cond.instanceMethod yX6_isSureWith, Cond.selects RX6 yX6_isSureWith yX6_isSureWith, Cond.code yX6_isSureWith cX6_isSureWith 2 (some .boolean), Cond.methodLink RX6 97 yX6_suspectsWith, Cond.methodLink RX6 101 yJ6_bitCount_0f7a4, Cond.methodLink RL 125 yX12_sure, Cond.instanceMethod yX12_sure, Cond.selects RX12 yX12_sure yX12_sure]
def wsL_law0_r51 : List Cond := [Cond.code yX12_sure cX12_sure 3 (some .int), Cond.methodLink RX12 361 yX12_isSure, Cond.instanceMethod yX12_isSure, Cond.selects RX12 yX12_isSure yX12_isSure, Cond.code yX12_isSure cX12_isSure 2 (some .boolean), Cond.methodLink RL 126 yX11_tells, Cond.instanceMethod yX11_tells, Cond.selects RX11 yX11_tells yX11_tells, Cond.code yX11_tells cX11_tells 4 (some .int), Cond.methodLink RX11 323 yX6_isSureWith, Cond.methodLink RL 129 yX12_tells, Cond.instanceMethod yX12_tells, Cond.selects RX12 yX12_tells yX12_tells, Cond.code yX12_tells cX12_tells 4 (some .int), Cond.methodLink RL 130 yX11_prices, Cond.instanceMethod yX11_prices, Cond.selects RX11 yX11_prices yX11_prices, Cond.code yX11_prices cX11_prices 1 (some .int), Cond.methodLink RX11 326 yX5_trade, Cond.instanceMethod yX5_trade, Cond.selects RX5 yX5_trade yX5_trade, Cond.code yX5_trade cX5_trade 7 (some .int), Cond.fieldLink RX5 34 "RecastStage$Play" "men" "I", Cond.methodLink RX5 22 yX1_prepare]
def wsL_law0_r52 : List Cond := [Cond.methodLink RX5 28 yJ7_fill_53178, Cond.methodLink RX5 40 yX5_wishOf, Cond.instanceMethod yX5_wishOf, Cond.selects RX5 yX5_wishOf yX5_wishOf, Cond.code yX5_wishOf cX5_wishOf 9 (some .int), Cond.fieldLink RX5 48 "RecastStage$Casting" "levels" "I", Cond.fieldLink RX5 51 "RecastStage$Casting" "partAt" "[I", Cond.fieldLink RX5 58 "RecastStage$Casting" "ableAt" "[I", Cond.methodLink RX5 54 yX6_liking, Cond.methodLink RX5 44 yX5_raise, Cond.instanceMethod yX5_raise, Cond.selects RX5 yX5_raise yX5_raise, Cond.code yX5_raise cX5_raise 6 (some .boolean), Cond.fieldLink RX5 65 "RecastStage$Play" "parts" "I", Cond.methodLink RL 133 yX12_prices, Cond.instanceMethod yX12_prices, Cond.selects RX12 yX12_prices yX12_prices, Cond.code yX12_prices cX12_prices 4 (some .int), Cond.fieldLink RX12 367 "RecastStageModel" "priceMen" "I", Cond.methodLink RX12 364 yX12_wantOf, Cond.instanceMethod yX12_wantOf, Cond.selects RX12 yX12_wantOf yX12_wantOf, Cond.code yX12_wantOf cX12_wantOf 5 (some .int), Cond.methodLink RL 134 yX11_price]
def wsL_law0_r53 : List Cond := [Cond.instanceMethod yX11_price, Cond.selects RX11 yX11_price yX11_price, Cond.code yX11_price cX11_price 2 (some .int), Cond.fieldLink RX11 330 "RecastStage$Market" "told" "Z", Cond.fieldLink RX11 333 "RecastStage$Market" "priceOf" "[I", Cond.methodLink RL 137 yX12_price, Cond.instanceMethod yX12_price, Cond.selects RX12 yX12_price yX12_price, Cond.code yX12_price cX12_price 2 (some .int), Cond.methodLink RL 138 yX11_wants, Cond.instanceMethod yX11_wants, Cond.selects RX11 yX11_wants yX11_wants, Cond.code yX11_wants cX11_wants 2 (some .int), Cond.fieldLink RX11 336 "RecastStage$Market" "wantedBy" "[I", Cond.methodLink RL 141 yX12_wants, Cond.instanceMethod yX12_wants, Cond.selects RX12 yX12_wants yX12_wants, Cond.code yX12_wants cX12_wants 2 (some .int), Cond.methodLink RL 142 yX11_goesOn, Cond.instanceMethod yX11_goesOn, Cond.selects RX11 yX11_goesOn yX11_goesOn, Cond.code yX11_goesOn cX11_goesOn 1 (some .int), Cond.methodLink RX11 339 yX11_goOnByBest, Cond.instanceMethod yX11_goOnByBest]
def wsL_law0_r54 : List Cond := [Cond.selects RX11 yX11_goOnByBest yX11_goOnByBest, Cond.code yX11_goOnByBest cX11_goOnByBest 2 none, Cond.methodLink RX11 353 yX2_copyFrom, Cond.methodLink RX11 401 yX11_playBest, Cond.instanceMethod yX11_playBest, Cond.selects RX11 yX11_playBest yX11_playBest, Cond.code yX11_playBest cX11_playBest 2 (some .boolean), Cond.methodLink RL 145 yX12_goesOn, Cond.instanceMethod yX12_goesOn, Cond.selects RX12 yX12_goesOn yX12_goesOn, Cond.code yX12_goesOn cX12_goesOn 1 (some .int), Cond.methodLink RX12 382 yX12_goesOnBy, Cond.instanceMethod yX12_goesOnBy, Cond.selects RX12 yX12_goesOnBy yX12_goesOnBy, Cond.code yX12_goesOnBy cX12_goesOnBy 3 (some .int), Cond.fieldLink RX12 376 "RecastStageModel" "joyOn" "I", Cond.methodLink RX12 370 yX12_tries, Cond.instanceMethod yX12_tries, Cond.selects RX12 yX12_tries yX12_tries, Cond.code yX12_tries cX12_tries 2 none, Cond.methodLink RX12 373 yX12_castsBest, Cond.instanceMethod yX12_castsBest, Cond.selects RX12 yX12_castsBest yX12_castsBest, Cond.code yX12_castsBest cX12_castsBest 2 (some .boolean)]
def wsL_law0_r55 : List Cond := [Cond.methodLink RX12 379 yX12_back, Cond.instanceMethod yX12_back, Cond.selects RX12 yX12_back yX12_back, Cond.code yX12_back cX12_back 2 none, Cond.methodLink RL 146 yX11_joy, Cond.instanceMethod yX11_joy, Cond.selects RX11 yX11_joy yX11_joy, Cond.code yX11_joy cX11_joy 1 (some .int), Cond.methodLink RL 149 yX12_joy, Cond.instanceMethod yX12_joy, Cond.selects RX12 yX12_joy yX12_joy, Cond.code yX12_joy cX12_joy 1 (some .int), Cond.methodLink RL 150 yX11_favourite, Cond.instanceMethod yX11_favourite, Cond.selects RX11 yX11_favourite yX11_favourite, Cond.code yX11_favourite cX11_favourite 2 (some .int), Cond.methodLink RX11 342 yX11_firstWithMost, Cond.instanceMethod yX11_firstWithMost, Cond.selects RX11 yX11_firstWithMost yX11_firstWithMost, Cond.code yX11_firstWithMost cX11_firstWithMost 5 (some .int), Cond.fieldLink RX11 346 "RecastStage$Play" "men" "I", Cond.methodLink RL 153 yX12_favourite, Cond.instanceMethod yX12_favourite, Cond.selects RX12 yX12_favourite yX12_favourite]
def wsL_law0_r56 : List Cond := [Cond.code yX12_favourite cX12_favourite 4 (some .int), Cond.methodLink RX12 385 yX12_valueOf, Cond.instanceMethod yX12_valueOf, Cond.selects RX12 yX12_valueOf yX12_valueOf, Cond.code yX12_valueOf cX12_valueOf 3 (some .int), Cond.methodLink RL 154 yX11_drawn, Cond.instanceMethod yX11_drawn, Cond.selects RX11 yX11_drawn yX11_drawn, Cond.code yX11_drawn cX11_drawn 3 (some .int), Cond.methodLink RX11 349 yX11_playDrawn, Cond.instanceMethod yX11_playDrawn, Cond.selects RX11 yX11_playDrawn yX11_playDrawn, Cond.code yX11_playDrawn cX11_playDrawn 6 none, Cond.constant RX11 407 (1103515245), Cond.methodLink RX11 404 yX2_sendOff, Cond.methodLink RL 157 yX12_drawn, Cond.instanceMethod yX12_drawn, Cond.selects RX12 yX12_drawn yX12_drawn, Cond.code yX12_drawn cX12_drawn 2 (some .int), Cond.methodLink RX12 395 yX12_draws, Cond.instanceMethod yX12_draws, Cond.selects RX12 yX12_draws yX12_draws, Cond.code yX12_draws cX12_draws 4 (some .int), Cond.fieldLink RX12 388 "RecastStageModel" "seed" "I"]
def wsL_law0_r57 : List Cond := [Cond.methodLink RX12 392 yX12_draw, Cond.instanceMethod yX12_draw, Cond.selects RX12 yX12_draw yX12_draw, Cond.code yX12_draw cX12_draw 2 (some .int), Cond.constant RX12 391 (1103515245), Cond.methodLink RL 158 yX11_odds, Cond.instanceMethod yX11_odds, Cond.selects RX11 yX11_odds yX11_odds, Cond.code yX11_odds cX11_odds 5 (some .int), Cond.methodLink RL 161 yX12_odds, Cond.instanceMethod yX12_odds, Cond.selects RX12 yX12_odds yX12_odds, Cond.code yX12_odds cX12_odds 5 (some .int), Cond.methodLink RL 162 yX11_book, Cond.instanceMethod yX11_book, Cond.selects RX11 yX11_book yX11_book, Cond.code yX11_book cX11_book 3 (some .int), Cond.methodLink RX11 355 yX0_read, Cond.instanceMethod yX0_read, Cond.selects RX0 yX0_read yX0_read, Cond.code yX0_read cX0_read 4 none, Cond.fieldLink RX0 41 "RecastStage$Reader" "kind" "I", Cond.methodLink RX0 46 yX0_readLine, Cond.instanceMethod yX0_readLine]
def wsL_law0_r58 : List Cond := [Cond.selects RX0 yX0_readLine yX0_readLine, Cond.code yX0_readLine cX0_readLine 5 none, Cond.fieldLink RX0 72 "RecastStage$Play" "manNames" "[J", Cond.fieldLink RX0 78 "RecastStage$Play" "men" "I", Cond.fieldLink RX0 90 "RecastStage$Play" "partNames" "[J", Cond.fieldLink RX0 93 "RecastStage$Play" "parts" "I", Cond.fieldLink RX0 99 "RecastStage$Play" "factNames" "[J", Cond.fieldLink RX0 102 "RecastStage$Play" "facts" "I", Cond.methodLink RX0 58 yX8_isAtName, Cond.methodLink RX0 61 yX8_wordHere, Cond.methodLink RX0 65 yX0_canBegin, Cond.static yX0_canBegin, Cond.code yX0_canBegin cX0_canBegin 2 (some .boolean), Cond.methodLink RX0 69 yX8_fail, Cond.methodLink RX0 80 yX8_nameHere, Cond.methodLink RX0 50 yX8_isFine, Cond.methodLink RX0 84 yX8_step, Cond.methodLink RX0 87 yX8_takeWord, Cond.instanceMethod yX8_takeWord, Cond.selects RX8 yX8_takeWord yX8_takeWord, Cond.code yX8_takeWord cX8_takeWord 2 none, Cond.methodLink RX8 117 yX8_isAtWord, Cond.instanceMethod yX8_isAtWord, Cond.selects RX8 yX8_isAtWord yX8_isAtWord]
def wsL_law0_r59 : List Cond := [Cond.code yX8_isAtWord cX8_isAtWord 2 (some .boolean), Cond.methodLink RX0 96 yX8_takeName, Cond.methodLink RX0 54 yX8_takeSign, Cond.methodLink RX11 358 yX0_judge, Cond.instanceMethod yX0_judge, Cond.selects RX0 yX0_judge yX0_judge, Cond.code yX0_judge cX0_judge 6 (some .int), Cond.fieldLink RX0 105 "RecastStage$Evening" "joySoFar" "I", Cond.fieldLink RX0 114 "RecastStage$Evening" "next" "I", Cond.methodLink RX0 110 yX0_whyWrong, Cond.instanceMethod yX0_whyWrong, Cond.selects RX0 yX0_whyWrong yX0_whyWrong, Cond.code yX0_whyWrong cX0_whyWrong 7 (some .int), Cond.fieldLink RX0 143 "RecastStage$Evening" "manAs" "[I", Cond.methodLink RX0 117 yX2_castUnlessWhy, Cond.instanceMethod yX2_castUnlessWhy, Cond.selects RX2 yX2_castUnlessWhy yX2_castUnlessWhy, Cond.code yX2_castUnlessWhy cX2_castUnlessWhy 5 (some .int), Cond.methodLink RX2 85 yX2_whyNot, Cond.methodLink RX0 121 yX2_canTell, Cond.methodLink RX0 125 yX2_tell, Cond.methodLink RX0 129 yX2_canEndAct, Cond.methodLink RX0 133 yX2_endAct, Cond.methodLink RX0 137 yX1_findBest]
def wsL_law0_r60 : List Cond := [Cond.methodLink RX0 146 yX1_castInto, Cond.methodLink RL 165 yX12_book, Cond.instanceMethod yX12_book, Cond.selects RX12 yX12_book yX12_book, Cond.code yX12_book cX12_book 5 (some .int), Cond.fieldLink RX12 398 "RecastStageModel" "told" "I", Cond.fieldLink RX12 407 "RecastStageModel" "hasBooked" "Z", Cond.methodLink RX12 401 yX12_bookLine, Cond.instanceMethod yX12_bookLine, Cond.selects RX12 yX12_bookLine yX12_bookLine, Cond.code yX12_bookLine cX12_bookLine 3 (some .boolean), Cond.methodLink RX12 404 yX12_does, Cond.instanceMethod yX12_does, Cond.selects RX12 yX12_does yX12_does, Cond.code yX12_does cX12_does 5 (some .int), Cond.methodLink RL 166 yX11_booked, Cond.instanceMethod yX11_booked, Cond.selects RX11 yX11_booked yX11_booked, Cond.code yX11_booked cX11_booked 2 (some .int), Cond.fieldLink RX11 361 "RecastStage$Book" "judged" "Z", Cond.fieldLink RX11 364 "RecastStage$Book" "reason" "I", Cond.fieldLink RX11 367 "RecastStage$Book" "rightLines" "I", Cond.fieldLink RX11 370 "RecastStage$Book" "nextThen" "I", Cond.fieldLink RX11 373 "RecastStage$Book" "joyInIt" "I"]
def wsL_law0_r61 : List Cond := [Cond.methodLink RL 169 yX12_booked, Cond.instanceMethod yX12_booked, Cond.selects RX12 yX12_booked yX12_booked, Cond.code yX12_booked cX12_booked 2 (some .int), Cond.methodLink RL 170 yX11_sentence, Cond.instanceMethod yX11_sentence, Cond.selects RX11 yX11_sentence yX11_sentence, Cond.code yX11_sentence cX11_sentence 1 (some .int), Cond.fieldLink RX11 380 "RecastStage$Sentence" "ones" "I", Cond.methodLink RX11 376 yX9_read, Cond.instanceMethod yX9_read, Cond.selects RX9 yX9_read yX9_read, Cond.code yX9_read cX9_read 3 none, Cond.fieldLink RX9 50 "RecastStage$Reader" "kind" "I", Cond.methodLink RX9 37 yX9_clear, Cond.methodLink RX9 40 yX9_readCond, Cond.instanceMethod yX9_readCond, Cond.selects RX9 yX9_readCond yX9_readCond, Cond.code yX9_readCond cX9_readCond 5 none, Cond.methodLink RX9 57 yX9_readAll, Cond.instanceMethod yX9_readAll, Cond.selects RX9 yX9_readAll yX9_readAll, Cond.methodLink RX9 44 yX8_isFine, Cond.methodLink RX9 60 yX8_isAtWord]
def wsL_law0_r62 : List Cond := [Cond.methodLink RX9 64 yX8_step, Cond.methodLink RX9 67 yX9_addStep, Cond.instanceMethod yX9_addStep, Cond.selects RX9 yX9_addStep yX9_addStep, Cond.code yX9_addStep cX9_addStep 4 none, Cond.code yX9_readAll cX9_readAll 5 none, Cond.methodLink RX9 71 yX9_readOne, Cond.instanceMethod yX9_readOne, Cond.selects RX9 yX9_readOne yX9_readOne, Cond.code yX9_readOne cX9_readOne 6 none, Cond.methodLink RX9 74 yX8_wordHere, Cond.methodLink RX9 78 yX8_isAtSign, Cond.methodLink RX9 53 yX8_fail, Cond.methodLink RX9 81 yX8_takeSign, Cond.methodLink RX9 84 yX9_readPlainOne, Cond.instanceMethod yX9_readPlainOne, Cond.selects RX9 yX9_readPlainOne yX9_readPlainOne, Cond.code yX9_readPlainOne cX9_readPlainOne 5 none, Cond.fieldLink RX9 87 "RecastStage$Play" "factNames" "[J", Cond.fieldLink RX9 93 "RecastStage$Play" "facts" "I", Cond.fieldLink RX9 100 "RecastStage$Reader" "value" "I", Cond.methodLink RX9 96 yX8_takeName, Cond.methodLink RX9 103 yX8_takeNumber, Cond.methodLink RX11 377 yX9_copyFrom]
def wsL_law0_r63 : List Cond := [Cond.instanceMethod yX9_copyFrom, Cond.selects RX9 yX9_copyFrom yX9_copyFrom, Cond.code yX9_copyFrom cX9_copyFrom 2 none, Cond.methodLink RX9 31 arraycopyName, Cond.methodLink RL 173 yX12_sentence, Cond.instanceMethod yX12_sentence, Cond.selects RX12 yX12_sentence yX12_sentence, Cond.code yX12_sentence cX12_sentence 3 (some .int), Cond.fieldLink RX12 411 "RecastStageModel" "codes" "I", Cond.fieldLink RX12 427 "RecastStageModel" "ones" "I", Cond.fieldLink RX12 414 "RecastStageModel" "top" "I", Cond.fieldLink RX12 421 "RecastStageModel" "deep" "I", Cond.fieldLink RX12 430 "RecastStageModel" "isWhole" "Z", Cond.methodLink RX12 433 yX12_nots, Cond.instanceMethod yX12_nots, Cond.selects RX12 yX12_nots yX12_nots, Cond.code yX12_nots cX12_nots 1 none, Cond.methodLink RX12 417 yX12_code, Cond.instanceMethod yX12_code, Cond.selects RX12 yX12_code yX12_code, Cond.code yX12_code cX12_code 4 none, Cond.methodLink RX12 436 yX12_joins, Cond.instanceMethod yX12_joins, Cond.selects RX12 yX12_joins yX12_joins]
def wsL_law0_r64 : List Cond := [Cond.code yX12_joins cX12_joins 2 none, Cond.methodLink RX12 439 yX12_behind, Cond.instanceMethod yX12_behind, Cond.selects RX12 yX12_behind yX12_behind, Cond.code yX12_behind cX12_behind 1 (some .boolean), Cond.methodLink RX12 442 yX12_operand, Cond.instanceMethod yX12_operand, Cond.selects RX12 yX12_operand yX12_operand, Cond.code yX12_operand cX12_operand 5 (some .boolean), Cond.methodLink RX12 424 yX12_leafOf, Cond.instanceMethod yX12_leafOf, Cond.selects RX12 yX12_leafOf yX12_leafOf, Cond.code yX12_leafOf cX12_leafOf 1 (some .int), Cond.methodLink RL 174 yX11_said, Cond.instanceMethod yX11_said, Cond.selects RX11 yX11_said yX11_said, Cond.code yX11_said cX11_said 5 (some .int), Cond.methodLink RX11 383 yX9_menOf, Cond.instanceMethod yX9_menOf, Cond.selects RX9 yX9_menOf yX9_menOf, Cond.code yX9_menOf cX9_menOf 6 (some .int), Cond.methodLink RX9 107 yX6_allMen, Cond.methodLink RX9 110 yX9_menOfOne, Cond.instanceMethod yX9_menOfOne]
def wsL_law0_r65 : List Cond := [Cond.selects RX9 yX9_menOfOne yX9_menOfOne, Cond.code yX9_menOfOne cX9_menOfOne 6 (some .int), Cond.fieldLink RX9 119 "RecastStage$Evening" "ahead" "I", Cond.fieldLink RX9 126 "RecastStage$Play" "men" "I", Cond.methodLink RX9 114 yX2_menOn, Cond.methodLink RX9 122 yX2_sureMen, Cond.methodLink RX9 129 yX9_holdsFor, Cond.instanceMethod yX9_holdsFor, Cond.selects RX9 yX9_holdsFor yX9_holdsFor, Cond.code yX9_holdsFor cX9_holdsFor 5 (some .boolean), Cond.fieldLink RX9 133 "RecastStage$Evening" "known" "[I", Cond.fieldLink RX9 140 "RecastStage$Play" "manSkill" "[I", Cond.fieldLink RX9 146 "RecastStage$Evening" "times" "[I", Cond.fieldLink RX9 149 "RecastStage$Evening" "clapsFor" "[I", Cond.methodLink RX9 143 yX9_compares, Cond.instanceMethod yX9_compares, Cond.selects RX9 yX9_compares yX9_compares, Cond.code yX9_compares cX9_compares 3 (some .boolean), Cond.methodLink RL 177 yX12_said, Cond.instanceMethod yX12_said, Cond.selects RX12 yX12_said yX12_said, Cond.code yX12_said cX12_said 4 (some .int), Cond.methodLink RX12 449 yX12_isSaid, Cond.instanceMethod yX12_isSaid]
def wsL_law0_r66 : List Cond := [Cond.selects RX12 yX12_isSaid yX12_isSaid, Cond.code yX12_isSaid cX12_isSaid 5 (some .boolean), Cond.methodLink RX12 445 yX12_isLeaf, Cond.instanceMethod yX12_isLeaf, Cond.selects RX12 yX12_isLeaf yX12_isLeaf, Cond.code yX12_isLeaf cX12_isLeaf 6 (some .boolean), Cond.methodLink RL 178 yX11_image, Cond.instanceMethod yX11_image, Cond.selects RX11 yX11_image yX11_image, Cond.code yX11_image cX11_image 3 (some .boolean), Cond.fieldLink RX11 386 "RecastStage$Image" "play" "LRecastStage$Play;", Cond.fieldLink RX11 387 "RecastStage$Image" "evening" "LRecastStage$Evening;", Cond.fieldLink RX11 388 "RecastStage$Image" "sentence" "LRecastStage$Sentence;", Cond.fieldLink RX11 389 "RecastStage$Image" "filled" "Z", Cond.methodLink RL 181 yX12_image, Cond.instanceMethod yX12_image, Cond.selects RX12 yX12_image yX12_image, Cond.code yX12_image cX12_image 3 (some .boolean), Cond.methodLink RL 182 yX11_restore, Cond.instanceMethod yX11_restore, Cond.selects RX11 yX11_restore yX11_restore, Cond.code yX11_restore cX11_restore 3 (some .boolean), Cond.methodLink RL 185 yX12_restore, Cond.instanceMethod yX12_restore]
def wsL_law0_r67 : List Cond := [Cond.selects RX12 yX12_restore yX12_restore, Cond.code yX12_restore cX12_restore 3 (some .boolean), Cond.methodLink RL 186 yX11_count, Cond.instanceMethod yX11_count, Cond.selects RX11 yX11_count yX11_count, Cond.code yX11_count cX11_count 2 (some .int), Cond.fieldLink RX11 392 "RecastStage$Play" "parts" "I", Cond.fieldLink RX11 395 "RecastStage$Play" "facts" "I", Cond.fieldLink RX11 398 "RecastStage$Play" "rest" "Z", Cond.methodLink RL 189 yX12_count, Cond.instanceMethod yX12_count, Cond.selects RX12 yX12_count yX12_count, Cond.code yX12_count cX12_count 2 (some .int)]
def wsL_law0 : List Cond := (wsL_law0_r1 ++ (wsL_law0_r2 ++ (wsL_law0_r3 ++ (wsL_law0_r4 ++ (wsL_law0_r5 ++ (wsL_law0_r6 ++ (wsL_law0_r7 ++ (wsL_law0_r8 ++ (wsL_law0_r9 ++ (wsL_law0_r10 ++ (wsL_law0_r11 ++ (wsL_law0_r12 ++ (wsL_law0_r13 ++ (wsL_law0_r14 ++ (wsL_law0_r15 ++ (wsL_law0_r16 ++ (wsL_law0_r17 ++ (wsL_law0_r18 ++ (wsL_law0_r19 ++ (wsL_law0_r20 ++ (wsL_law0_r21 ++ (wsL_law0_r22 ++ (wsL_law0_r23 ++ (wsL_law0_r24 ++ (wsL_law0_r25 ++ (wsL_law0_r26 ++ (wsL_law0_r27 ++ (wsL_law0_r28 ++ (wsL_law0_r29 ++ (wsL_law0_r30 ++ (wsL_law0_r31 ++ (wsL_law0_r32 ++ (wsL_law0_r33 ++ (wsL_law0_r34 ++ (wsL_law0_r35 ++ (wsL_law0_r36 ++ (wsL_law0_r37 ++ (wsL_law0_r38 ++ (wsL_law0_r39 ++ (wsL_law0_r40 ++ (wsL_law0_r41 ++ (wsL_law0_r42 ++ (wsL_law0_r43 ++ (wsL_law0_r44 ++ (wsL_law0_r45 ++ (wsL_law0_r46 ++ (wsL_law0_r47 ++ (wsL_law0_r48 ++ (wsL_law0_r49 ++ (wsL_law0_r50 ++ (wsL_law0_r51 ++ (wsL_law0_r52 ++ (wsL_law0_r53 ++ (wsL_law0_r54 ++ (wsL_law0_r55 ++ (wsL_law0_r56 ++ (wsL_law0_r57 ++ (wsL_law0_r58 ++ (wsL_law0_r59 ++ (wsL_law0_r60 ++ (wsL_law0_r61 ++ (wsL_law0_r62 ++ (wsL_law0_r63 ++ (wsL_law0_r64 ++ (wsL_law0_r65 ++ (wsL_law0_r66 ++ wsL_law0_r67)))))))))))))))))))))))))))))))))))))))))))))))))))))))))))))))))) ++ wsX110 ++ wsX120 ++ wsX80 ++ wsX70 ++ wsX60 ++ wsX20 ++ wsX30 ++ wsX90 ++ wsX10 ++ wsX50 ++ wsX00 ++ wsX40 ++ wsX100 ++ ([] : List Cond)
end
section
/-! THE CHECKER, 1: its values. An int in a range, with bounds on its distance from named starting values; a cell of a sort; a long. -/
abbrev ck_AV : Type := (Int × Int × List (Nat × Int × Int)) ⊕ (Nat ⊕ Unit)
/-- a sort of cells: an object (place in ck_cl, its fields), or an array (kind, length, ranges by place, sort of its cells) -/
abbrev ck_TD : Type := (Nat × List ck_AV) ⊕ (Nat × Nat × List (Nat × Int × Int) × Nat)
/-- locals, operand stack (with where a value was read), followed fields -/
abbrev ck_AS : Type := List (Nat × ck_AV) × List (ck_AV × Nat) × List ck_AV
def ck_d (X : Nat → Int) (n : Int) (ds : List (Nat × Int × Int)) : Prop := ∀ d ∈ ds, d.2.1 ≤ n - X d.1 ∧ n - X d.1 ≤ d.2.2
def ck_i (X : Nat → Int) (r : Int × Int × List (Nat × Int × Int)) (n : Int) : Prop := r.1 ≤ n ∧ n ≤ r.2.1 ∧ ck_d X n r.2.2
def ck_v (ty : Nat → Option Nat) (X : Nat → Int) (av : ck_AV) (v : Value) : Prop := match av with
  | .inl r => ∃ x : Int32, v = .int x ∧ ck_i X r x.toInt
  | .inr (.inl t) => ∃ a : Nat, v = .ref a ∧ ty a = some t
  | .inr (.inr _) => ∃ x : Int64, v = .long x
def ck_cat (av : ck_AV) : Nat := match av with
  | .inr (.inr _) => 2
  | _ => 1
theorem ck_v_cat {ty : Nat → Option Nat} {X : Nat → Int} {av : ck_AV} {v : Value} (h : ck_v ty X av v) : v.category = ck_cat av := by
  match av, h with
  | .inl r, h => obtain ⟨x, rfl, -⟩ := h; rfl
  | .inr (.inl t), h => obtain ⟨a, rfl, -⟩ := h; rfl
  | .inr (.inr u), h => obtain ⟨x, rfl⟩ := h; rfl
def ck_dle (d1 : List (Nat × Int × Int)) (d : Nat × Int × Int) : Bool := d1.any (fun q => q.1 == d.1 && decide (d.2.1 ≤ q.2.1) && decide (q.2.2 ≤ d.2.2))
def ck_le (a b : ck_AV) : Bool := match a, b with
  | .inl r, .inl q => decide (q.1 ≤ r.1) && decide (r.2.1 ≤ q.2.1) && q.2.2.all (ck_dle r.2.2)
  | .inr (.inl t), .inr (.inl u) => t == u
  | .inr (.inr _), .inr (.inr _) => true
  | _, _ => false
theorem ck_dle_ok {X : Nat → Int} {n : Int} {d1 : List (Nat × Int × Int)} {d : Nat × Int × Int} (h : ck_dle d1 d = true) (h1 : ck_d X n d1) : d.2.1 ≤ n - X d.1 ∧ n - X d.1 ≤ d.2.2 := by
  unfold ck_dle at h
  obtain ⟨q, hq, h2⟩ := List.any_eq_true.mp h
  simp only [Bool.and_eq_true, decide_eq_true_eq, beq_iff_eq] at h2
  have h3 := h1 q hq
  rw [h2.1.1] at h3
  omega
theorem ck_le_ok {ty : Nat → Option Nat} {X : Nat → Int} {a b : ck_AV} {v : Value} (h : ck_le a b = true) (hv : ck_v ty X a v) : ck_v ty X b v := by
  match a, b, h, hv with
  | .inl r, .inl q, h, hv =>
    obtain ⟨x, rfl, h1, h2, h3⟩ := hv
    simp only [ck_le, Bool.and_eq_true, decide_eq_true_eq, List.all_eq_true] at h
    exact ⟨x, rfl, by omega, by omega, fun d hd => ck_dle_ok (h.2 d hd) h3⟩
  | .inr (.inl t), .inr (.inl u), h, hv =>
    obtain ⟨y, rfl, h1⟩ := hv
    simp only [ck_le, beq_iff_eq] at h
    exact ⟨y, rfl, by rw [← h]; exact h1⟩
  | .inr (.inr _), .inr (.inr _), _, hv => exact hv
theorem ck_lo (x : Int32) : -2147483648 ≤ x.toInt := by
  have := x.le_toInt
  simpa using this
theorem ck_hi (x : Int32) : x.toInt ≤ 2147483647 := by
  have := x.toInt_lt
  omega
def ck_full : Int × Int × List (Nat × Int × Int) := (-2147483648, 2147483647, [])
theorem ck_full_ok {X : Nat → Int} (x : Int32) : ck_i X ck_full x.toInt := ⟨ck_lo x, ck_hi x, fun d h => nomatch h⟩
def ck_in32 (lo hi : Int) : Bool := decide (-2147483648 ≤ lo) && decide (hi ≤ 2147483647)
def ck_sh (l h : Int) (ds : List (Nat × Int × Int)) : List (Nat × Int × Int) := ds.map (fun d => (d.1, d.2.1 + l, d.2.2 + h))
theorem ck_sh_ok {X : Nat → Int} {n k l h : Int} {ds : List (Nat × Int × Int)} (hd : ck_d X n ds) (h1 : l ≤ k) (h2 : k ≤ h) : ck_d X (n + k) (ck_sh l h ds) := by
  intro d hm
  obtain ⟨q, hq, rfl⟩ := List.mem_map.mp hm
  have := hd q hq
  dsimp only at this ⊢
  omega
theorem ck_d_app {X : Nat → Int} {n : Int} {a b : List (Nat × Int × Int)} (h1 : ck_d X n a) (h2 : ck_d X n b) : ck_d X n (a ++ b) := fun d h => (List.mem_append.mp h).elim (h1 d) (h2 d)
theorem ck_bm {n : Int} (h1 : -2147483648 ≤ n) (h2 : n ≤ 2147483647) : n.bmod (2 ^ 32) = n := by
  unfold Int.bmod
  simp only [Nat.reducePow]
  omega
theorem ck_addT {x y : Int32} (h1 : -2147483648 ≤ x.toInt + y.toInt) (h2 : x.toInt + y.toInt ≤ 2147483647) : (x + y).toInt = x.toInt + y.toInt := by
  rw [Int32.toInt_add]; exact ck_bm h1 h2
theorem ck_subT {x y : Int32} (h1 : -2147483648 ≤ x.toInt - y.toInt) (h2 : x.toInt - y.toInt ≤ 2147483647) : (x - y).toInt = x.toInt - y.toInt := by
  rw [Int32.toInt_sub]; exact ck_bm h1 h2
theorem ck_mulT {x y : Int32} (h1 : -2147483648 ≤ x.toInt * y.toInt) (h2 : x.toInt * y.toInt ≤ 2147483647) : (x * y).toInt = x.toInt * y.toInt := by
  rw [Int32.toInt_mul]; exact ck_bm h1 h2
abbrev ck_I : Type := Int × Int × List (Nat × Int × Int)
def ck_add (a b : ck_I) : ck_I := if ck_in32 (a.1 + b.1) (a.2.1 + b.2.1) then (a.1 + b.1, a.2.1 + b.2.1, ck_sh b.1 b.2.1 a.2.2 ++ ck_sh a.1 a.2.1 b.2.2) else ck_full
theorem ck_add_ok {X : Nat → Int} {a b : ck_I} {x y : Int32} (ha : ck_i X a x.toInt) (hb : ck_i X b y.toInt) : ck_i X (ck_add a b) (x + y).toInt := by
  unfold ck_add
  split
  · next h =>
    simp only [ck_in32, Bool.and_eq_true, decide_eq_true_eq] at h
    obtain ⟨a1, a2, a3⟩ := ha
    obtain ⟨b1, b2, b3⟩ := hb
    rw [ck_addT (by omega) (by omega)]
    refine ⟨by dsimp only; omega, by dsimp only; omega, ck_d_app (ck_sh_ok a3 b1 b2) ?_⟩
    rw [Int.add_comm]
    exact ck_sh_ok b3 a1 a2
  · exact ck_full_ok _
def ck_sub (a b : ck_I) : ck_I := if ck_in32 (a.1 - b.2.1) (a.2.1 - b.1) then (a.1 - b.2.1, a.2.1 - b.1, ck_sh (- b.2.1) (- b.1) a.2.2) else ck_full
theorem ck_sub_ok {X : Nat → Int} {a b : ck_I} {x y : Int32} (ha : ck_i X a x.toInt) (hb : ck_i X b y.toInt) : ck_i X (ck_sub a b) (x - y).toInt := by
  unfold ck_sub
  split
  · next h =>
    simp only [ck_in32, Bool.and_eq_true, decide_eq_true_eq] at h
    obtain ⟨a1, a2, a3⟩ := ha
    obtain ⟨b1, b2, b3⟩ := hb
    rw [ck_subT (by omega) (by omega)]
    refine ⟨by dsimp only; omega, by dsimp only; omega, ?_⟩
    rw [Int.sub_eq_add_neg]
    exact ck_sh_ok a3 (by omega) (by omega)
  · exact ck_full_ok _
def ck_mul (a b : ck_I) : ck_I := if ck_in32 (min (min (a.1 * b.1) (a.1 * b.2.1)) (min (a.2.1 * b.1) (a.2.1 * b.2.1))) (max (max (a.1 * b.1) (a.1 * b.2.1)) (max (a.2.1 * b.1) (a.2.1 * b.2.1))) then (min (min (a.1 * b.1) (a.1 * b.2.1)) (min (a.2.1 * b.1) (a.2.1 * b.2.1)), max (max (a.1 * b.1) (a.1 * b.2.1)) (max (a.2.1 * b.1) (a.2.1 * b.2.1)), []) else ck_full
theorem ck_mb {c a b x : Int} (h1 : a ≤ x) (h2 : x ≤ b) : min (c * a) (c * b) ≤ c * x ∧ c * x ≤ max (c * a) (c * b) := by
  rcases Int.le_total 0 c with hc | hc
  · have g1 := Int.mul_le_mul_of_nonneg_left h1 hc
    have g2 := Int.mul_le_mul_of_nonneg_left h2 hc
    omega
  · have g1 := Int.mul_le_mul_of_nonpos_left hc h1
    have g2 := Int.mul_le_mul_of_nonpos_left hc h2
    omega
theorem ck_mul_ok {X : Nat → Int} {a b : ck_I} {x y : Int32} (ha : ck_i X a x.toInt) (hb : ck_i X b y.toInt) : ck_i X (ck_mul a b) (x * y).toInt := by
  unfold ck_mul
  split
  · next h =>
    simp only [ck_in32, Bool.and_eq_true, decide_eq_true_eq] at h
    obtain ⟨a1, a2, a3⟩ := ha
    obtain ⟨b1, b2, b3⟩ := hb
    have k0 := ck_mb (c := y.toInt) a1 a2
    have k1 := ck_mb (c := a.1) b1 b2
    have k2 := ck_mb (c := a.2.1) b1 b2
    rw [Int.mul_comm y.toInt a.1, Int.mul_comm y.toInt a.2.1, Int.mul_comm y.toInt x.toInt] at k0
    rw [ck_mulT (by omega) (by omega)]
    exact ⟨by dsimp only; omega, by dsimp only; omega, fun d h => nomatch h⟩
  · exact ck_full_ok _
theorem ck_nn {x : Int32} (h : 0 ≤ x.toInt) : ∃ j : Nat, j < 2 ^ 31 ∧ x = nI j := nI_of (fun q => by
  have := Int32.lt_iff_toInt_lt.mp q
  have e : (0 : Int32).toInt = 0 := rfl
  omega)
theorem ck_andR (x y : Int32) (h : 0 ≤ y.toInt) : 0 ≤ (x &&& y).toInt ∧ (x &&& y).toInt ≤ y.toInt := by
  obtain ⟨j, hj, rfl⟩ := ck_nn h
  have e : x &&& nI j = nI (x.toBitVec.toNat &&& j) := by
    apply Int32.toBitVec_inj.mp
    apply BitVec.eq_of_toNat_eq
    have hle : x.toBitVec.toNat &&& j ≤ j := Nat.and_le_right
    rw [pk_tn (by omega), Int32.toBitVec_and, BitVec.toNat_and, pk_tn (by omega)]
  have hle : x.toBitVec.toNat &&& j ≤ j := Nat.and_le_right
  rw [e, nI_toInt (by omega), nI_toInt hj]
  omega
theorem ck_andC (x y : Int32) : x &&& y = y &&& x := by
  apply Int32.toBitVec_inj.mp
  rw [Int32.toBitVec_and, Int32.toBitVec_and, BitVec.and_comm]
def ck_and (a b : ck_I) : ck_I := if decide (0 ≤ b.1) then (0, b.2.1, []) else if decide (0 ≤ a.1) then (0, a.2.1, []) else ck_full
theorem ck_and_ok {X : Nat → Int} {a b : ck_I} {x y : Int32} (ha : ck_i X a x.toInt) (hb : ck_i X b y.toInt) : ck_i X (ck_and a b) (x &&& y).toInt := by
  unfold ck_and
  split
  · next h =>
    have h := of_decide_eq_true h
    have := ck_andR x y (by have := hb.1; omega)
    have := hb.2.1
    exact ⟨by dsimp only; omega, by dsimp only; omega, fun d h => nomatch h⟩
  · split
    · next h =>
      have h := of_decide_eq_true h
      have := ck_andR y x (by have := ha.1; omega)
      have := ha.2.1
      rw [ck_andC]
      exact ⟨by dsimp only; omega, by dsimp only; omega, fun d h => nomatch h⟩
    · exact ck_full_ok _
def ck_rem (a b : ck_I) : ck_I := if decide (0 ≤ a.1) && decide (1 ≤ b.1) then (0, b.2.1 - 1, []) else ck_full
theorem ck_rem_ok {X : Nat → Int} {a b : ck_I} {x y : Int32} (ha : ck_i X a x.toInt) (hb : ck_i X b y.toInt) : ck_i X (ck_rem a b) (x - x / y * y).toInt := by
  unfold ck_rem
  split
  · next h =>
    simp only [Bool.and_eq_true, decide_eq_true_eq] at h
    have a1 := ha.1
    have b1 := hb.1
    have b2 := hb.2.1
    obtain ⟨i, hi, rfl⟩ := ck_nn (x := x) (by omega)
    obtain ⟨j, hj, rfl⟩ := ck_nn (x := y) (by omega)
    rw [nI_toInt hj] at b1 b2
    have h0 : 0 < j := by omega
    have hm := Nat.mod_lt i h0
    rw [pk_rem hi h0 hj, nI_toInt (by omega)]
    exact ⟨by dsimp only; omega, by dsimp only; omega, fun d h => nomatch h⟩
  · exact ck_full_ok _
theorem ck_shl1 : ∀ k, k < 31 → ((1 : Int32) <<< (nI k &&& 31)).toInt = 2 ^ k := by decide +kernel
def ck_shl (a b : ck_I) : ck_I := if decide (a.1 = 1) && decide (a.2.1 = 1) && decide (0 ≤ b.1) && decide (b.2.1 ≤ 30) then (2 ^ b.1.toNat, 2 ^ b.2.1.toNat, []) else ck_full
theorem ck_pw {a b : Nat} (h : a ≤ b) : (2 : Int) ^ a ≤ 2 ^ b := by
  have : (2 : Nat) ^ a ≤ 2 ^ b := Nat.pow_le_pow_right (by omega) h
  exact_mod_cast this
theorem ck_shl_ok {X : Nat → Int} {a b : ck_I} {x y : Int32} (ha : ck_i X a x.toInt) (hb : ck_i X b y.toInt) : ck_i X (ck_shl a b) (x <<< (y &&& 31)).toInt := by
  unfold ck_shl
  split
  · next h =>
    simp only [Bool.and_eq_true, decide_eq_true_eq] at h
    have a1 := ha.1
    have a2 := ha.2.1
    have b1 := hb.1
    have b2 := hb.2.1
    have hx : x = 1 := Int32.toInt_inj.mp (by rw [show (1 : Int32).toInt = 1 from rfl]; omega)
    obtain ⟨j, hj, rfl⟩ := ck_nn (x := y) (by omega)
    rw [nI_toInt hj] at b1 b2
    rw [hx, ck_shl1 j (by omega)]
    exact ⟨ck_pw (by omega), ck_pw (by omega), fun d h => nomatch h⟩
  · exact ck_full_ok _
/-! comparisons: 0 eq, 1 ne, 2 lt, 3 ge, 4 gt, 5 le -/
def ck_rel (c : Nat) (x y : Int) : Prop := match c with
  | 0 => x = y
  | 1 => x ≠ y
  | 2 => x < y
  | 3 => y ≤ x
  | 4 => y < x
  | _ => x ≤ y
def ck_ne1 (a : Int × Int) (v : Int) : Int × Int := (if a.1 = v then a.1 + 1 else a.1, if a.2 = v then a.2 - 1 else a.2)
def ck_cmp (c : Nat) (a b : Int × Int) : (Int × Int) × (Int × Int) := match c with
  | 0 => ((max a.1 b.1, min a.2 b.2), (max a.1 b.1, min a.2 b.2))
  | 1 => (if b.1 = b.2 then ck_ne1 a b.1 else a, if a.1 = a.2 then ck_ne1 b a.1 else b)
  | 2 => ((a.1, min a.2 (b.2 - 1)), (max b.1 (a.1 + 1), b.2))
  | 3 => ((max a.1 b.1, a.2), (b.1, min b.2 a.2))
  | 4 => ((max a.1 (b.1 + 1), a.2), (b.1, min b.2 (a.2 - 1)))
  | _ => ((a.1, min a.2 b.2), (max b.1 a.1, b.2))
theorem ck_cmp_ok (c : Nat) {a b : Int × Int} {x y : Int} (h : ck_rel c x y) (a1 : a.1 ≤ x) (a2 : x ≤ a.2) (b1 : b.1 ≤ y) (b2 : y ≤ b.2) :
    ((ck_cmp c a b).1.1 ≤ x ∧ x ≤ (ck_cmp c a b).1.2) ∧ ((ck_cmp c a b).2.1 ≤ y ∧ y ≤ (ck_cmp c a b).2.2) := by
  match c, h with
  | 0, h => simp only [ck_rel] at h; simp only [ck_cmp]; omega
  | 1, h =>
    simp only [ck_rel] at h
    simp only [ck_cmp, ck_ne1]
    by_cases e1 : b.1 = b.2 <;> by_cases e2 : a.1 = a.2 <;> simp only [e1, e2, if_true, if_false] <;> (repeat' split) <;> (try simp only) <;> omega
  | 2, h => simp only [ck_rel] at h; simp only [ck_cmp]; omega
  | 3, h => simp only [ck_rel] at h; simp only [ck_cmp]; omega
  | 4, h => simp only [ck_rel] at h; simp only [ck_cmp]; omega
  | n + 5, h => simp only [ck_rel] at h; simp only [ck_cmp]; omega
/-! ranges by place -/
def ck_seg : List (Nat × Int × Int) → Nat → Int × Int
  | [], _ => (-2147483648, 2147483647)
  | q :: r, j => if j < q.1 then q.2 else ck_seg r j
def ck_sj : List (Nat × Int × Int) → Nat → Nat → Int × Int
  | [], _, _ => (-2147483648, 2147483647)
  | q :: r, a, b => if b < q.1 then q.2 else if q.1 ≤ a then ck_sj r a b else (min q.2.1 (ck_sj r a b).1, max q.2.2 (ck_sj r a b).2)
def ck_sm : List (Nat × Int × Int) → Nat → Nat → Int × Int
  | [], _, _ => (-2147483648, 2147483647)
  | q :: r, a, b => if b < q.1 then q.2 else if q.1 ≤ a then ck_sm r a b else (max q.2.1 (ck_sm r a b).1, min q.2.2 (ck_sm r a b).2)
theorem ck_sj_ok {a b j : Nat} (h1 : a ≤ j) (h2 : j ≤ b) : ∀ sg : List (Nat × Int × Int), (ck_sj sg a b).1 ≤ (ck_seg sg j).1 ∧ (ck_seg sg j).2 ≤ (ck_sj sg a b).2
  | [] => ⟨Int.le_refl _, Int.le_refl _⟩
  | q :: r => by
    have ih := ck_sj_ok h1 h2 r
    simp only [ck_sj, ck_seg]
    split
    · rw [if_pos (by omega)]; exact ⟨Int.le_refl _, Int.le_refl _⟩
    · split
      · rw [if_neg (by omega)]; exact ih
      · split <;> dsimp only <;> omega
theorem ck_sm_ok {a b j : Nat} (h1 : a ≤ j) (h2 : j ≤ b) : ∀ sg : List (Nat × Int × Int), (ck_seg sg j).1 ≤ (ck_sm sg a b).1 ∧ (ck_sm sg a b).2 ≤ (ck_seg sg j).2
  | [] => ⟨Int.le_refl _, Int.le_refl _⟩
  | q :: r => by
    have ih := ck_sm_ok h1 h2 r
    simp only [ck_sm, ck_seg]
    by_cases e1 : b < q.1
    · rw [if_pos e1, if_pos (by omega)]; exact ⟨Int.le_refl _, Int.le_refl _⟩
    · rw [if_neg e1]
      by_cases e2 : q.1 ≤ a
      · rw [if_pos e2, if_neg (by omega)]; exact ih
      · rw [if_neg e2]
        by_cases e3 : j < q.1
        · rw [if_pos e3]; simp only; omega
        · rw [if_neg e3]; simp only; omega
end
section
/-! THE CHECKER, 2: the world. Cells by sorts: what a cell of a sort holds is in range, always; fields that are followed have their values by name; 'Ex' is what the hand-proved rows keep besides. -/
abbrev ck_cl : List vw_C := [(RX0, TX0, 9), (RX1, TX1, 13), (RX2, TX2, 13), (RX3, TX3, 3), (RX4, TX4, 4), (RX5, TX5, 3), (RX6, TX6, 20), (RX7, TX7, 1), (RX8, TX8, 11), (RX9, TX9, 6), (RX10, TX10, 2), (RX11, TX11, 14), (RX12, TX12, 54)]
abbrev ck_tys (cys : Nat → ClassId) : List (ClassId × FieldType) := [(cys 0, .int), (cys 1, .byte), (cys 2, .boolean), (cys 3, .long), (cys 4, .object RX2), (cys 5, .object RX4)]
theorem ck_inlX0 : ∀ w ∈ wsX00, w ∈ wsL_law0 := fun _ h => List.mem_append_left _ (List.mem_append_left _ (List.mem_append_left _ (List.mem_append_right _ h)))
theorem ck_inlX1 : ∀ w ∈ wsX10, w ∈ wsL_law0 := fun _ h => List.mem_append_left _ (List.mem_append_left _ (List.mem_append_left _ (List.mem_append_left _ (List.mem_append_left _ (List.mem_append_right _ h)))))
theorem ck_inlX2 : ∀ w ∈ wsX20, w ∈ wsL_law0 := fun _ h => List.mem_append_left _ (List.mem_append_left _ (List.mem_append_left _ (List.mem_append_left _ (List.mem_append_left _ (List.mem_append_left _ (List.mem_append_left _ (List.mem_append_left _ (List.mem_append_right _ h))))))))
theorem ck_inlX3 : ∀ w ∈ wsX30, w ∈ wsL_law0 := fun _ h => List.mem_append_left _ (List.mem_append_left _ (List.mem_append_left _ (List.mem_append_left _ (List.mem_append_left _ (List.mem_append_left _ (List.mem_append_left _ (List.mem_append_right _ h)))))))
theorem ck_inlX4 : ∀ w ∈ wsX40, w ∈ wsL_law0 := fun _ h => List.mem_append_left _ (List.mem_append_left _ (List.mem_append_right _ h))
theorem ck_inlX5 : ∀ w ∈ wsX50, w ∈ wsL_law0 := fun _ h => List.mem_append_left _ (List.mem_append_left _ (List.mem_append_left _ (List.mem_append_left _ (List.mem_append_right _ h))))
theorem ck_inlX6 : ∀ w ∈ wsX60, w ∈ wsL_law0 := fun _ h => List.mem_append_left _ (List.mem_append_left _ (List.mem_append_left _ (List.mem_append_left _ (List.mem_append_left _ (List.mem_append_left _ (List.mem_append_left _ (List.mem_append_left _ (List.mem_append_left _ (List.mem_append_right _ h)))))))))
theorem ck_inlX7 : ∀ w ∈ wsX70, w ∈ wsL_law0 := fun _ h => List.mem_append_left _ (List.mem_append_left _ (List.mem_append_left _ (List.mem_append_left _ (List.mem_append_left _ (List.mem_append_left _ (List.mem_append_left _ (List.mem_append_left _ (List.mem_append_left _ (List.mem_append_left _ (List.mem_append_right _ h))))))))))
theorem ck_inlX8 : ∀ w ∈ wsX80, w ∈ wsL_law0 := fun _ h => List.mem_append_left _ (List.mem_append_left _ (List.mem_append_left _ (List.mem_append_left _ (List.mem_append_left _ (List.mem_append_left _ (List.mem_append_left _ (List.mem_append_left _ (List.mem_append_left _ (List.mem_append_left _ (List.mem_append_left _ (List.mem_append_right _ h)))))))))))
theorem ck_inlX9 : ∀ w ∈ wsX90, w ∈ wsL_law0 := fun _ h => List.mem_append_left _ (List.mem_append_left _ (List.mem_append_left _ (List.mem_append_left _ (List.mem_append_left _ (List.mem_append_left _ (List.mem_append_right _ h))))))
theorem ck_inlX10 : ∀ w ∈ wsX100, w ∈ wsL_law0 := fun _ h => List.mem_append_left _ (List.mem_append_right _ h)
theorem ck_inlX11 : ∀ w ∈ wsX110, w ∈ wsL_law0 := fun _ h => List.mem_append_left _ (List.mem_append_left _ (List.mem_append_left _ (List.mem_append_left _ (List.mem_append_left _ (List.mem_append_left _ (List.mem_append_left _ (List.mem_append_left _ (List.mem_append_left _ (List.mem_append_left _ (List.mem_append_left _ (List.mem_append_left _ (List.mem_append_left _ (List.mem_append_right _ h)))))))))))))
theorem ck_inlX12 : ∀ w ∈ wsX120, w ∈ wsL_law0 := fun _ h => List.mem_append_left _ (List.mem_append_left _ (List.mem_append_left _ (List.mem_append_left _ (List.mem_append_left _ (List.mem_append_left _ (List.mem_append_left _ (List.mem_append_left _ (List.mem_append_left _ (List.mem_append_left _ (List.mem_append_left _ (List.mem_append_left _ (List.mem_append_right _ h))))))))))))
def ck_clOK (q : vw_C) : Prop := (∀ w ∈ u_ws q.1 q.2.1 q.2.2, w ∈ wsL_law0) ∧ (∃ ty0 : Nat → FieldType, ∀ k, k < q.2.2 → parseFieldDescriptor (q.2.1 k).2.2.1 = some (ty0 k)) ∧ ∀ a, a < q.2.2 → ∀ b, b < q.2.2 → a ≠ b → (q.2.1 a).2.1 ≠ (q.2.1 b).2.1
theorem ck_cl_ok {ci : Nat} {q : vw_C} (h : ck_cl[ci]? = some q) : ck_clOK q := by
  match ci, h with
  | 0, h => cases h; exact ⟨ck_inlX0, ⟨tyX0, tyX0_ok⟩, nmX0⟩
  | 1, h => cases h; exact ⟨ck_inlX1, ⟨tyX1, tyX1_ok⟩, nmX1⟩
  | 2, h => cases h; exact ⟨ck_inlX2, ⟨tyX2, tyX2_ok⟩, nmX2⟩
  | 3, h => cases h; exact ⟨ck_inlX3, ⟨tyX3, tyX3_ok⟩, nmX3⟩
  | 4, h => cases h; exact ⟨ck_inlX4, ⟨tyX4, tyX4_ok⟩, nmX4⟩
  | 5, h => cases h; exact ⟨ck_inlX5, ⟨tyX5, tyX5_ok⟩, nmX5⟩
  | 6, h => cases h; exact ⟨ck_inlX6, ⟨tyX6, tyX6_ok⟩, nmX6⟩
  | 7, h => cases h; exact ⟨ck_inlX7, ⟨tyX7, tyX7_ok⟩, nmX7⟩
  | 8, h => cases h; exact ⟨ck_inlX8, ⟨tyX8, tyX8_ok⟩, nmX8⟩
  | 9, h => cases h; exact ⟨ck_inlX9, ⟨tyX9, tyX9_ok⟩, nmX9⟩
  | 10, h => cases h; exact ⟨ck_inlX10, ⟨tyX10, tyX10_ok⟩, nmX10⟩
  | 11, h => cases h; exact ⟨ck_inlX11, ⟨tyX11, tyX11_ok⟩, nmX11⟩
  | 12, h => cases h; exact ⟨ck_inlX12, ⟨tyX12, tyX12_ok⟩, nmX12⟩
  | n + 13, h => simp [ck_cl] at h
def ck_e (ty : Nat → Option Nat) (cys : Nat → ClassId) (td : ck_TD) (en : va_E) : Prop := match td with
  | .inl o => ∃ fs : List Value, en = .inr (o.1, fs) ∧ fs.length = o.2.length ∧ ∀ (k : Nat) (ft : ck_AV), o.2[k]? = some ft → ∃ v, fs[k]? = some v ∧ ck_v ty (fun _ => 0) ft v
  | .inr r => (r.1 < 3 ∧ ∃ f : Nat → Int32, en = .inl (cys r.1, r.2.1, .inl f) ∧ ∀ j, j < r.2.1 → (ck_seg r.2.2.1 j).1 ≤ (f j).toInt ∧ (f j).toInt ≤ (ck_seg r.2.2.1 j).2)
      ∨ (r.1 = 3 ∧ ∃ f : Nat → Int64, en = .inl (cys 3, r.2.1, .inr (.inl f)))
      ∨ ((r.1 = 4 ∨ r.1 = 5) ∧ ∃ f : Nat → Option Nat, en = .inl (cys r.1, r.2.1, .inr (.inr (.inr (.inr f)))) ∧ ∀ j, j < r.2.1 → ∃ a : Nat, f j = some a ∧ ty a = some r.2.2.2)
def ck_pr (pr : List (Nat × Nat)) (k : Nat) : Prop := ∃ q ∈ pr, q.1 ≤ k ∧ k ≤ q.2
/-- two contents of a cell agree where it is kept by hand -/
def ck_ag (pr : List (Nat × Nat)) (e1 e2 : va_E) : Prop := match e1, e2 with
  | .inr o1, .inr o2 => o1.1 = o2.1 ∧ o1.2.length = o2.2.length ∧ ∀ k, ck_pr pr k → o1.2[k]? = o2.2[k]?
  | .inl a1, .inl a2 => a1.1 = a2.1 ∧ a1.2.1 = a2.2.1 ∧ (match a1.2.2, a2.2.2 with
      | .inl f, .inl g => ∀ k, ck_pr pr k → f k = g k
      | .inr (.inl _), .inr (.inl _) => pr = []
      | _, _ => False)
  | _, _ => False
abbrev ck_own (ty : Nat → Option Nat) : Nat → Prop := fun q => (ty q).isSome = true
def ck_ExP (ty : Nat → Option Nat) (prot : Nat → List (Nat × Nat)) (Ex : va_W → Prop) : Prop := ∀ (ws : va_W) (q a t : Nat) (en en' : va_E), va_D (ck_own ty) ws → ws[q]? = some (a, en) → ty a = some t → ck_ag (prot t) en en' → Ex ws → Ex (ws.set q (a, en'))
def ck_typed (ty : Nat → Option Nat) (cys : Nat → ClassId) (tg : List ck_TD) (ws : va_W) : Prop := ∀ a t : Nat, ty a = some t → ∃ (q : Nat) (en : va_E) (td : ck_TD), ws[q]? = some (a, en) ∧ tg[t]? = some td ∧ ck_e ty cys td en
/-- what a followed place holds -/
def ck_has (en : va_E) (k : Nat) (x : Int32) : Prop := match en with
  | .inr o => o.2[k]? = some (.int x)
  | .inl a => match a.2.2 with
    | .inl f => f k = x
    | _ => False
def ck_pvs (ty : Nat → Option Nat) (pvT : List (Nat × Nat)) (pvv : Nat → Int32) (ws : va_W) : Prop := ∀ j t k : Nat, pvT[j]? = some (t, k) → ∀ a : Nat, ty a = some t → ∃ (q : Nat) (en : va_E), ws[q]? = some (a, en) ∧ ck_has en k (pvv j)
def ck_uq (ty : Nat → Option Nat) (pvT : List (Nat × Nat)) : Prop := ∀ j t k : Nat, pvT[j]? = some (t, k) → ∀ a a' : Nat, ty a = some t → ty a' = some t → a' = a
def ck_Wo (D : va_G) (cys : Nat → ClassId) (ty : Nat → Option Nat) (tg : List ck_TD) (pvT : List (Nat × Nat)) (Ex : va_W → Prop) (pvv : Nat → Int32) (H : Heap) : Prop := ∃ ws : va_W, va_P D ck_cl ws H ∧ va_D (ck_own ty) ws ∧ ck_typed ty cys tg ws ∧ ck_pvs ty pvT pvv ws ∧ Ex ws
theorem ck_D1 {A : Nat → Prop} {ws : va_W} {q q' a : Nat} {en en' : va_E} (hD : va_D A ws) (h : ws[q]? = some (a, en)) (h' : ws[q']? = some (a, en')) : q' = q ∧ en' = en := by
  have e := hD.1 q' q _ _ h' h rfl
  subst e
  rw [h] at h'
  cases h'
  exact ⟨rfl, rfl⟩
section CK3
variable {p : Program} {l : Launch} {e : Env} {R : Room} {s : State} {m : MethodId} {args : Array Value} {below : List Frame} {meth : Method} {c : Code} {H H0 : Heap} {locs : List Loc} {cells slots : Nat} {Q : State → Prop} {cc : ByteArray} {pc : Nat} {ls : Array Slot} {rest : List Value}
variable {D : va_G} {cys : Nat → ClassId} {ty : Nat → Option Nat} {tg : List ck_TD} {pvT : List (Nat × Nat)} {prot : Nat → List (Nat × Nat)} {Ex : va_W → Prop} {pvv : Nat → Int32} {Ts : List Jvm.Cond} {own : String}
theorem ck_set {ws : va_W} {q a t : Nat} {en en' : va_E} {td : ck_TD} {pvv' : Nat → Int32} (hD : va_D (ck_own ty) ws) (hT : ck_typed ty cys tg ws) (hV : ck_pvs ty pvT pvv ws) (hE : Ex ws) (hX : ck_ExP ty prot Ex)
    (hq : ws[q]? = some (a, en)) (hta : ty a = some t) (htd : tg[t]? = some td) (he : ck_e ty cys td en') (hag : ck_ag (prot t) en en')
    (hpv : ∀ j t' k : Nat, pvT[j]? = some (t', k) → (t' = t → (∀ a' : Nat, ty a' = some t → a' = a) ∧ ck_has en' k (pvv' j)) ∧ (t' ≠ t → pvv' j = pvv j)) :
    ck_typed ty cys tg (ws.set q (a, en')) ∧ ck_pvs ty pvT pvv' (ws.set q (a, en')) ∧ Ex (ws.set q (a, en')) := by
  have hlt : q < ws.length := (List.getElem?_eq_some_iff.mp hq).1
  have hself : (ws.set q (a, en'))[q]? = some (a, en') := by rw [List.getElem?_set_self hlt]
  refine ⟨?_, ?_, hX ws q a t en en' hD hq hta hag hE⟩
  · intro a' t' h'
    obtain ⟨q', en2, td2, g1, g2, g3⟩ := hT a' t' h'
    by_cases hqq : q = q'
    · subst hqq
      rw [hq] at g1
      cases g1
      rw [hta] at h'
      cases h'
      exact ⟨q, en', td, hself, htd, he⟩
    · exact ⟨q', en2, td2, by rw [List.getElem?_set_ne hqq]; exact g1, g2, g3⟩
  · intro j t' k hj a' h'
    obtain ⟨w1, w2⟩ := hpv j t' k hj
    by_cases htt : t' = t
    · obtain ⟨u1, u2⟩ := w1 htt
      subst htt
      have := u1 a' h'
      subst this
      exact ⟨q, en', hself, u2⟩
    · obtain ⟨q', en2, g1, g2⟩ := hV j t' k hj a' h'
      have hqq : q ≠ q' := by
        intro z
        subst z
        rw [hq] at g1
        cases g1
        rw [hta] at h'
        cases h'
        exact htt rfl
      exact ⟨q', en2, by rw [List.getElem?_set_ne hqq]; exact g1, by rw [w2 htt]; exact g2⟩
theorem ck_get (hexec : p.tables.exec = Jvm.exec) (hb : c.code = cc) (hts : ∀ w ∈ Ts, w.before args s = true) (hin : ∀ w ∈ wsL_law0, w ∈ Ts) (hown : s.vm.findClass own = some m.cls) (hK : va_K D ck_cl (ck_tys cys) s) (hW : ck_Wo D cys ty tg pvT Ex pvv H) {a t ci k index : Nat} (hta : ty a = some t) {fts : List ck_AV} (htd : tg[t]? = some (.inl (ci, fts))) {r : vw_C} (hc : ck_cl[ci]? = some r) (hk : k < r.2.2) (hlink : Jvm.Cond.fieldLink own index (r.2.1 k).1 (r.2.1 k).2.1 (r.2.1 k).2.2.1 ∈ wsL_law0) {ft : ck_AV} (hft : fts[k]? = some ft) (hdg : decode cc pc = .ok (.getfield index, 3))
    (kk : ∀ v : Value, ck_v ty (fun _ => 0) ft v → (∀ j : Nat, pvT[j]? = some (t, k) → v = .int (pvv j)) → W p l e R s m args below meth c H locs cells slots Q (F0 m (pc + 3) ls (v :: rest))) : W p l e R s m args below meth c H locs cells slots Q (F0 m pc ls (.ref a :: rest)) := by
  obtain ⟨ws, hP, hD, hT, hV, hE⟩ := hW
  obtain ⟨q, en, td, g1, g2, g3⟩ := hT a t hta
  rw [htd] at g2
  cases g2
  obtain ⟨fs, rfl, h2, h3⟩ := g3
  obtain ⟨v, h4, h5⟩ := h3 k ft hft
  obtain ⟨C, T, N⟩ := r
  refine va_get (own := own) (ref := (T k).1) hexec hb hts (fun w h => hin w ((ck_cl_ok hc).1 w h)) hown hK hP q g1 hc k hk (hts _ (hin _ hlink)) (fun _ h => h) h4 hdg (kk v h5 (fun j hj => ?_))
  obtain ⟨q', en', w1, w2⟩ := hV j t k hj a hta
  have w3 := (ck_D1 hD g1 w1).2
  subst w3
  have w2 : fs[k]? = some (.int (pvv j)) := w2
  rw [h4] at w2
  exact Option.some.inj w2
theorem ck_put (hexec : p.tables.exec = Jvm.exec) (hb : c.code = cc) (hts : ∀ w ∈ Ts, w.before args s = true) (hin : ∀ w ∈ wsL_law0, w ∈ Ts) (hown : s.vm.findClass own = some m.cls) (hK : va_K D ck_cl (ck_tys cys) s) (hX : ck_ExP ty prot Ex) (hU : ck_uq ty pvT) (hW : ck_Wo D cys ty tg pvT Ex pvv H) (hS : va_S (ck_own ty) H0 H locs) {a t ci k index : Nat} (hta : ty a = some t) {fts : List ck_AV} (htd : tg[t]? = some (.inl (ci, fts))) {r : vw_C} (hc : ck_cl[ci]? = some r) (hk : k < r.2.2) (hlink : Jvm.Cond.fieldLink own index (r.2.1 k).1 (r.2.1 k).2.1 (r.2.1 k).2.2.1 ∈ wsL_law0) (hfin : (r.2.1 k).2.2.2 = false) {ft : ck_AV} (hft : fts[k]? = some ft) {v : Value} (hv : ck_v ty (fun _ => 0) ft v) (hnp : ¬ ck_pr (prot t) k) {fty : FieldType} (hd : parseFieldDescriptor (r.2.1 k).2.2.1 = some fty) (hn : narrow fty v = v) (hfit : fits fty v = true) (hi : (∃ j : Nat, pvT[j]? = some (t, k)) → ∃ x, v = .int x) (hdg : decode cc pc = .ok (.putfield index, 3))
    (kk : ∀ (H1 : Heap) (locs1 : List Loc) (pvv' : Nat → Int32), ck_Wo D cys ty tg pvT Ex pvv' H1 → va_S (ck_own ty) H0 H1 locs1 → (∀ j : Nat, pvT[j]? = some (t, k) → v = .int (pvv' j)) → (∀ j : Nat, pvT[j]? ≠ some (t, k) → pvv' j = pvv j) → W p l e R s m args below meth c H1 locs1 cells slots Q (F0 m (pc + 3) ls rest)) : W p l e R s m args below meth c H locs cells slots Q (F0 m pc ls (v :: .ref a :: rest)) := by
  obtain ⟨ws, hP, hD, hT, hV, hE⟩ := hW
  obtain ⟨q, en, td, g1, g2, g3⟩ := hT a t hta
  have htd' := g2
  rw [htd] at g2
  cases g2
  obtain ⟨fs, rfl, h2, h3⟩ := g3
  have hkl : k < fs.length := by rw [h2]; exact (List.getElem?_eq_some_iff.mp hft).1
  obtain ⟨C, T, N⟩ := r
  obtain ⟨k1, ⟨ty0, k2⟩, k3⟩ := ck_cl_ok hc
  refine va_put (own := own) (ref := (T k).1) hexec hb hts (fun w h => hin w (k1 w h)) ty0 k2 k3 hown hK hP hD hS q g1 hc k hk (hts _ (hin _ hlink)) (fun _ h => h) hfin hd hn hfit hkl hdg (fun H1 locs1 hP1 hD1 hS1 => ?_)
  have key : ∃ pvv' : Nat → Int32, (∀ j : Nat, pvT[j]? = some (t, k) → v = .int (pvv' j)) ∧ (∀ j : Nat, pvT[j]? ≠ some (t, k) → pvv' j = pvv j) := by
    by_cases hh : ∃ j : Nat, pvT[j]? = some (t, k)
    · obtain ⟨x, rfl⟩ := hi hh
      refine ⟨fun j => if pvT[j]? = some (t, k) then x else pvv j, fun j hj => by simp [hj], fun j hj => by simp [hj]⟩
    · exact ⟨pvv, fun j hj => absurd ⟨j, hj⟩ hh, fun j _ => rfl⟩
  obtain ⟨pvv', p1, p2⟩ := key
  obtain ⟨n1, n2, n3⟩ := ck_set (prot := prot) (en' := .inr (ci, fs.set k v)) (pvv' := pvv') hD hT hV hE hX g1 hta htd' ⟨fs.set k v, rfl, by rw [List.length_set]; exact h2, fun k' ft' hk' => by
      by_cases hkk : k = k'
      · subst hkk
        rw [hft] at hk'
        cases hk'
        exact ⟨v, by rw [List.getElem?_set_self hkl], hv⟩
      · obtain ⟨v', w1, w2⟩ := h3 k' ft' hk'
        exact ⟨v', by rw [List.getElem?_set_ne hkk]; exact w1, w2⟩⟩
    ⟨rfl, by rw [List.length_set], fun k' hk' => by
      by_cases hkk : k = k'
      · subst hkk; exact absurd hk' hnp
      · rw [List.getElem?_set_ne hkk]⟩
    (fun j t' k' hj => ⟨fun htt => by
      subst htt
      refine ⟨fun a' h' => hU j t' k' hj a a' hta h', ?_⟩
      show (fs.set k v)[k']? = some (.int (pvv' j))
      by_cases hkk : k = k'
      · subst hkk
        rw [List.getElem?_set_self hkl, p1 j hj]
      · rw [List.getElem?_set_ne hkk]
        have hne : pvT[j]? ≠ some (t', k) := by rw [hj]; intro z; cases z; exact hkk rfl
        rw [p2 j hne]
        obtain ⟨q', en', w1, w2⟩ := hV j t' k' hj a hta
        have w3 := (ck_D1 hD g1 w1).2
        subst w3
        exact w2, fun htt => p2 j (by rw [hj]; intro z; cases z; exact htt rfl)⟩)
  exact kk H1 locs1 pvv' ⟨_, hP1, hD1, n1, n2, n3⟩ hS1 p1 p2
end CK3
end
section
/-! THE CHECKER, 3: arrays of a sort. -/
theorem ck_cl0 {x : Int32} (h : 0 ≤ x.toInt) : x.toNatClampNeg = x.toInt.toNat := rfl
theorem ck_vin {i : Int32} {n : Nat} (h0 : 0 ≤ i.toInt) (h1 : i.toInt < n) : vp_in i n := vp_in_iff.mpr ⟨h0, h1⟩
theorem ck_nz {x : Int32} (h : 0 ≤ x.toInt) : ¬ x < 0 := fun q => by
  have := Int32.lt_iff_toInt_lt.mp q
  have e : (0 : Int32).toInt = 0 := rfl
  omega
def ck_in (sg : List (Nat × Int × Int)) (j : Nat) (x : Int32) : Prop := (ck_seg sg j).1 ≤ x.toInt ∧ x.toInt ≤ (ck_seg sg j).2
section CK4
variable {p : Program} {l : Launch} {e : Env} {R : Room} {s : State} {m : MethodId} {args : Array Value} {below : List Frame} {meth : Method} {c : Code} {H H0 : Heap} {locs : List Loc} {cells slots : Nat} {Q : State → Prop} {cc : ByteArray} {pc : Nat} {ls : Array Slot} {rest : List Value}
variable {D : va_G} {cys : Nat → ClassId} {ty : Nat → Option Nat} {tg : List ck_TD} {pvT : List (Nat × Nat)} {prot : Nat → List (Nat × Nat)} {Ex : va_W → Prop} {pvv : Nat → Int32} {Ts : List Jvm.Cond} {own : String}
/-- an array cell of a sort, opened -/
theorem ck_arrI {ws : va_W} {a t kd n et : Nat} {sg : List (Nat × Int × Int)} (hT : ck_typed ty cys tg ws) (hta : ty a = some t) (htd : tg[t]? = some (.inr (kd, n, sg, et))) (hkd : kd < 3) : ∃ (q : Nat) (f : Nat → Int32), ws[q]? = some (a, .inl (cys kd, n, .inl f)) ∧ ∀ j, j < n → ck_in sg j (f j) := by
  obtain ⟨q, en, td, g1, g2, g3⟩ := hT a t hta
  rw [htd] at g2
  cases g2
  rcases g3 with ⟨-, f, rfl, h⟩ | ⟨h, -⟩ | ⟨h, -⟩
  · exact ⟨q, f, g1, h⟩
  · dsimp only at h; omega
  · dsimp only at h; omega
theorem ck_arrL {ws : va_W} {a t n et : Nat} {sg : List (Nat × Int × Int)} (hT : ck_typed ty cys tg ws) (hta : ty a = some t) (htd : tg[t]? = some (.inr (3, n, sg, et))) : ∃ (q : Nat) (f : Nat → Int64), ws[q]? = some (a, .inl (cys 3, n, .inr (.inl f))) := by
  obtain ⟨q, en, td, g1, g2, g3⟩ := hT a t hta
  rw [htd] at g2
  cases g2
  rcases g3 with ⟨h, -⟩ | ⟨-, f, rfl⟩ | ⟨h, -⟩
  · dsimp only at h; omega
  · exact ⟨q, f, g1⟩
  · dsimp only at h; omega
theorem ck_arrR {ws : va_W} {a t kd n et : Nat} {sg : List (Nat × Int × Int)} (hT : ck_typed ty cys tg ws) (hta : ty a = some t) (htd : tg[t]? = some (.inr (kd, n, sg, et))) (hkd : kd = 4 ∨ kd = 5) : ∃ (q : Nat) (f : Nat → Option Nat), ws[q]? = some (a, .inl (cys kd, n, .inr (.inr (.inr (.inr f))))) ∧ ∀ j, j < n → ∃ b : Nat, f j = some b ∧ ty b = some et := by
  obtain ⟨q, en, td, g1, g2, g3⟩ := hT a t hta
  rw [htd] at g2
  cases g2
  rcases g3 with ⟨h, -⟩ | ⟨h, -⟩ | ⟨-, f, rfl, h⟩
  · dsimp only at h; omega
  · dsimp only at h; omega
  · exact ⟨q, f, g1, h⟩
/-- no place of this sort is followed -/
def ck_nf (pvT : List (Nat × Nat)) (t : Nat) : Prop := ∀ (j k : Nat), pvT[j]? ≠ some (t, k)
theorem ck_noobj {t a : Nat} (hnf : ck_nf pvT t) {en' : va_E} : ∀ j t' k : Nat, pvT[j]? = some (t', k) → (t' = t → (∀ a' : Nat, ty a' = some t → a' = a) ∧ ck_has en' k (pvv j)) ∧ (t' ≠ t → pvv j = pvv j) := by
  intro j t' k hj
  refine ⟨fun htt => ?_, fun _ => rfl⟩
  subst htt
  exact absurd hj (hnf j k)
theorem ck_iald (hexec : p.tables.exec = Jvm.exec) (hb : c.code = cc) (hK : va_K D ck_cl (ck_tys cys) s) (hW : ck_Wo D cys ty tg pvT Ex pvv H) {a t n et : Nat} {sg : List (Nat × Int × Int)} (hta : ty a = some t) (htd : tg[t]? = some (.inr (0, n, sg, et))) {i : Int32} (h0 : 0 ≤ i.toInt) (h1 : i.toInt < n) (hdg : decode cc pc = .ok (.iaload, 1))
    (kk : ∀ x : Int32, ck_in sg i.toInt.toNat x → (∀ j : Nat, pvT[j]? = some (t, i.toInt.toNat) → x = pvv j) → W p l e R s m args below meth c H locs cells slots Q (F0 m (pc + 1) ls (.int x :: rest))) : W p l e R s m args below meth c H locs cells slots Q (F0 m pc ls (.int i :: .ref a :: rest)) := by
  obtain ⟨ws, hP, hD, hT, hV, hE⟩ := hW
  obtain ⟨q, f, g1, g2⟩ := ck_arrI hT hta htd (by omega)
  refine va_iald hexec hb hK hP q 0 g1 rfl (ck_vin h0 h1) hdg (kk _ (g2 i.toInt.toNat (by omega)) (fun j hj => ?_))
  obtain ⟨q', en', w1, w2⟩ := hV j t _ hj a hta
  have w3 := (ck_D1 hD g1 w1).2
  subst w3
  exact w2
theorem ck_bald (hexec : p.tables.exec = Jvm.exec) (hb : c.code = cc) (hK : va_K D ck_cl (ck_tys cys) s) (hW : ck_Wo D cys ty tg pvT Ex pvv H) {a t kd n et : Nat} {sg : List (Nat × Int × Int)} (hta : ty a = some t) (htd : tg[t]? = some (.inr (kd, n, sg, et))) (hkd : kd = 1 ∨ kd = 2) {i : Int32} (h0 : 0 ≤ i.toInt) (h1 : i.toInt < n) (hdg : decode cc pc = .ok (.baload, 1))
    (kk : ∀ x : Int32, ck_in sg i.toInt.toNat x → W p l e R s m args below meth c H locs cells slots Q (F0 m (pc + 1) ls (.int x :: rest))) : W p l e R s m args below meth c H locs cells slots Q (F0 m pc ls (.int i :: .ref a :: rest)) := by
  obtain ⟨ws, hP, hD, hT, hV, hE⟩ := hW
  obtain ⟨q, f, g1, g2⟩ := ck_arrI hT hta htd (by omega)
  rcases hkd with rfl | rfl
  · exact va_bald hexec hb hK hP q 1 g1 rfl (ck_vin h0 h1) hdg (kk _ (g2 i.toInt.toNat (by omega)))
  · exact va_zald hexec hb hK hP q 2 g1 rfl (ck_vin h0 h1) hdg (kk _ (g2 i.toInt.toNat (by omega)))
theorem ck_lald (hexec : p.tables.exec = Jvm.exec) (hb : c.code = cc) (hK : va_K D ck_cl (ck_tys cys) s) (hW : ck_Wo D cys ty tg pvT Ex pvv H) {a t n et : Nat} {sg : List (Nat × Int × Int)} (hta : ty a = some t) (htd : tg[t]? = some (.inr (3, n, sg, et))) {i : Int32} (h0 : 0 ≤ i.toInt) (h1 : i.toInt < n) (hdg : decode cc pc = .ok (.laload, 1))
    (kk : ∀ x : Int64, W p l e R s m args below meth c H locs cells slots Q (F0 m (pc + 1) ls (.long x :: rest))) : W p l e R s m args below meth c H locs cells slots Q (F0 m pc ls (.int i :: .ref a :: rest)) := by
  obtain ⟨ws, hP, hD, hT, hV, hE⟩ := hW
  obtain ⟨q, f, g1⟩ := ck_arrL hT hta htd
  exact va_lald hexec hb hK hP q 3 g1 rfl (ck_vin h0 h1) hdg (kk _)
theorem ck_aald (hexec : p.tables.exec = Jvm.exec) (hb : c.code = cc) (hK : va_K D ck_cl (ck_tys cys) s) (hW : ck_Wo D cys ty tg pvT Ex pvv H) {a t kd n et : Nat} {sg : List (Nat × Int × Int)} (hta : ty a = some t) (htd : tg[t]? = some (.inr (kd, n, sg, et))) (hkd : kd = 4 ∨ kd = 5) {i : Int32} (h0 : 0 ≤ i.toInt) (h1 : i.toInt < n) (hdg : decode cc pc = .ok (.aaload, 1))
    (kk : ∀ b : Nat, ty b = some et → W p l e R s m args below meth c H locs cells slots Q (F0 m (pc + 1) ls (.ref b :: rest))) : W p l e R s m args below meth c H locs cells slots Q (F0 m pc ls (.int i :: .ref a :: rest)) := by
  obtain ⟨ws, hP, hD, hT, hV, hE⟩ := hW
  obtain ⟨q, f, g1, g2⟩ := ck_arrR hT hta htd hkd
  obtain ⟨b, h2, h3⟩ := g2 i.toInt.toNat (by omega)
  have h2 : f i.toNatClampNeg = some b := h2
  rcases hkd with rfl | rfl
  · refine va_aldq hexec hb hK hP q 4 g1 rfl (ck_vin h0 h1) hdg ?_
    rw [h2]
    exact kk b h3
  · refine va_aldq hexec hb hK hP q 5 g1 rfl (ck_vin h0 h1) hdg ?_
    rw [h2]
    exact kk b h3
theorem ck_alen (hexec : p.tables.exec = Jvm.exec) (hb : c.code = cc) (hK : va_K D ck_cl (ck_tys cys) s) (hW : ck_Wo D cys ty tg pvT Ex pvv H) {a t kd n et : Nat} {sg : List (Nat × Int × Int)} (hta : ty a = some t) (htd : tg[t]? = some (.inr (kd, n, sg, et))) (hn : n < 2 ^ 31) (hdg : decode cc pc = .ok (.arraylength, 1))
    (kk : ∀ x : Int32, x.toInt = n → W p l e R s m args below meth c H locs cells slots Q (F0 m (pc + 1) ls (.int x :: rest))) : W p l e R s m args below meth c H locs cells slots Q (F0 m pc ls (.ref a :: rest)) := by
  obtain ⟨ws, hP, hD, hT, hV, hE⟩ := hW
  obtain ⟨q, en, td, g1, g2, g3⟩ := hT a t hta
  rw [htd] at g2
  cases g2
  have hx : (Int32.ofNat n).toInt = n := nI_toInt hn
  rcases g3 with ⟨h, f, rfl, -⟩ | ⟨h, f, rfl⟩ | ⟨h, f, rfl, -⟩
  · dsimp only at h g1
    rcases (show kd = 0 ∨ kd = 1 ∨ kd = 2 by omega) with rfl | rfl | rfl
    · exact va_alen hexec hb hK hP q 0 g1 rfl rfl hdg (kk _ hx)
    · exact va_alen hexec hb hK hP q 1 g1 rfl rfl hdg (kk _ hx)
    · exact va_alen hexec hb hK hP q 2 g1 rfl rfl hdg (kk _ hx)
  · exact va_alen hexec hb hK hP q 3 g1 rfl rfl hdg (kk _ hx)
  · dsimp only at h g1
    rcases h with rfl | rfl
    · exact va_alen hexec hb hK hP q 4 g1 rfl rfl hdg (kk _ hx)
    · exact va_alen hexec hb hK hP q 5 g1 rfl rfl hdg (kk _ hx)
theorem ck_stI {ws : va_W} {a t kd n et q : Nat} {sg : List (Nat × Int × Int)} {f : Nat → Int32} {i : Nat} {x : Int32} (hU : ck_uq ty pvT) (hD : va_D (ck_own ty) ws) (hT : ck_typed ty cys tg ws) (hV : ck_pvs ty pvT pvv ws) (hE : Ex ws) (hX : ck_ExP ty prot Ex) (hta : ty a = some t) (htd : tg[t]? = some (.inr (kd, n, sg, et))) (hkd : kd < 3) (g1 : ws[q]? = some (a, .inl (cys kd, n, .inl f))) (g2 : ∀ j, j < n → ck_in sg j (f j)) (hx : ck_in sg i x) (hnp : ¬ ck_pr (prot t) i) :
    ∃ pvv' : Nat → Int32, (ck_typed ty cys tg (ws.set q (a, .inl (cys kd, n, .inl (upd f i x)))) ∧ ck_pvs ty pvT pvv' (ws.set q (a, .inl (cys kd, n, .inl (upd f i x)))) ∧ Ex (ws.set q (a, .inl (cys kd, n, .inl (upd f i x))))) ∧ (∀ j : Nat, pvT[j]? = some (t, i) → pvv' j = x) ∧ (∀ j : Nat, pvT[j]? ≠ some (t, i) → pvv' j = pvv j) := by
  refine ⟨fun j => if pvT[j]? = some (t, i) then x else pvv j, ?_, fun j hj => by simp [hj], fun j hj => by simp [hj]⟩
  refine ck_set (prot := prot) hD hT hV hE hX g1 hta htd (Or.inl ⟨hkd, upd f i x, rfl, fun j hj => ?_⟩) ⟨rfl, rfl, fun k hk => ?_⟩ (fun j t' k hj => ⟨fun htt => ?_, fun htt => ?_⟩)
  · by_cases e1 : j = i
    · subst e1; rw [pk_us]; exact hx
    · rw [pk_un e1]; exact g2 j hj
  · have e1 : k ≠ i := fun z => hnp (z ▸ hk)
    rw [pk_un e1]
  · subst htt
    refine ⟨fun a' h' => hU j t' k hj a a' hta h', ?_⟩
    show upd f i x k = _
    by_cases e1 : k = i
    · subst e1; rw [pk_us]; simp [hj]
    · rw [pk_un e1]
      have hne : pvT[j]? ≠ some (t', i) := by rw [hj]; intro z; cases z; exact e1 rfl
      simp only [hne, if_false]
      obtain ⟨q', en', w1, w2⟩ := hV j t' k hj a hta
      have w3 := (ck_D1 hD g1 w1).2
      subst w3
      exact w2
  · have hne : pvT[j]? ≠ some (t, i) := by rw [hj]; intro z; cases z; exact htt rfl
    simp only [hne, if_false]
theorem ck_iast (hexec : p.tables.exec = Jvm.exec) (hb : c.code = cc) (hK : va_K D ck_cl (ck_tys cys) s) (hX : ck_ExP ty prot Ex) (hU : ck_uq ty pvT) (hW : ck_Wo D cys ty tg pvT Ex pvv H) (hS : va_S (ck_own ty) H0 H locs) {a t n et : Nat} {sg : List (Nat × Int × Int)} (hta : ty a = some t) (htd : tg[t]? = some (.inr (0, n, sg, et))) {i x : Int32} (h0 : 0 ≤ i.toInt) (h1 : i.toInt < n) (hx : ck_in sg i.toInt.toNat x) (hnp : ¬ ck_pr (prot t) i.toInt.toNat) (hdg : decode cc pc = .ok (.iastore, 1))
    (kk : ∀ (H1 : Heap) (locs1 : List Loc) (pvv' : Nat → Int32), ck_Wo D cys ty tg pvT Ex pvv' H1 → va_S (ck_own ty) H0 H1 locs1 → (∀ j : Nat, pvT[j]? = some (t, i.toInt.toNat) → pvv' j = x) → (∀ j : Nat, pvT[j]? ≠ some (t, i.toInt.toNat) → pvv' j = pvv j) → W p l e R s m args below meth c H1 locs1 cells slots Q (F0 m (pc + 1) ls rest)) : W p l e R s m args below meth c H locs cells slots Q (F0 m pc ls (.int x :: .int i :: .ref a :: rest)) := by
  obtain ⟨ws, hP, hD, hT, hV, hE⟩ := hW
  obtain ⟨q, f, g1, g2⟩ := ck_arrI hT hta htd (by omega)
  refine va_iast hexec hb hK hP hD hS q 0 g1 rfl (ck_vin h0 h1) hdg (fun H1 locs1 hP1 hD1 hS1 => ?_)
  obtain ⟨pvv', ⟨n1, n2, n3⟩, n4, n5⟩ := ck_stI (i := i.toNatClampNeg) (x := x) hU hD hT hV hE hX hta htd (by omega) g1 g2 hx hnp
  exact kk H1 locs1 pvv' ⟨_, hP1, hD1, n1, n2, n3⟩ hS1 n4 n5
theorem ck_nb2 {x : Int32} (h : 0 ≤ x.toInt ∧ x.toInt ≤ 1) : vp_nar .boolean x = x := by
  have : x = 0 ∨ x = 1 := by
    rcases (show x.toInt = 0 ∨ x.toInt = 1 by omega) with h | h
    · exact Or.inl (Int32.toInt_inj.mp h)
    · exact Or.inr (Int32.toInt_inj.mp h)
  rcases this with rfl | rfl <;> decide
theorem ck_bast (hexec : p.tables.exec = Jvm.exec) (hb : c.code = cc) (hK : va_K D ck_cl (ck_tys cys) s) (hX : ck_ExP ty prot Ex) (hU : ck_uq ty pvT) (hW : ck_Wo D cys ty tg pvT Ex pvv H) (hS : va_S (ck_own ty) H0 H locs) {a t n et : Nat} (hnf : ck_nf pvT t) (hta : ty a = some t) (htd : tg[t]? = some (.inr (1, n, [], et))) {i x : Int32} (h0 : 0 ≤ i.toInt) (h1 : i.toInt < n) (hnp : ¬ ck_pr (prot t) i.toInt.toNat) (hdg : decode cc pc = .ok (.bastore, 1))
    (kk : ∀ (H1 : Heap) (locs1 : List Loc), ck_Wo D cys ty tg pvT Ex pvv H1 → va_S (ck_own ty) H0 H1 locs1 → W p l e R s m args below meth c H1 locs1 cells slots Q (F0 m (pc + 1) ls rest)) : W p l e R s m args below meth c H locs cells slots Q (F0 m pc ls (.int x :: .int i :: .ref a :: rest)) := by
  obtain ⟨ws, hP, hD, hT, hV, hE⟩ := hW
  obtain ⟨q, f, g1, g2⟩ := ck_arrI hT hta htd (by omega)
  refine va_bast hexec hb hK hP hD hS q 1 g1 rfl (ck_vin h0 h1) hdg (fun H1 locs1 hP1 hD1 hS1 => ?_)
  obtain ⟨pvv', ⟨n1, n2, n3⟩, n4, n5⟩ := ck_stI (i := i.toNatClampNeg) (x := vp_nar .byte x) hU hD hT hV hE hX hta htd (by omega) g1 g2 ⟨ck_lo _, ck_hi _⟩ hnp
  have e5 : pvv' = pvv := funext (fun j => n5 j (hnf j _))
  subst e5
  exact kk H1 locs1 ⟨_, hP1, hD1, n1, n2, n3⟩ hS1
theorem ck_zast (hexec : p.tables.exec = Jvm.exec) (hb : c.code = cc) (hK : va_K D ck_cl (ck_tys cys) s) (hX : ck_ExP ty prot Ex) (hU : ck_uq ty pvT) (hW : ck_Wo D cys ty tg pvT Ex pvv H) (hS : va_S (ck_own ty) H0 H locs) {a t n et : Nat} (hnf : ck_nf pvT t) {sg : List (Nat × Int × Int)} (hta : ty a = some t) (htd : tg[t]? = some (.inr (2, n, sg, et))) {i x : Int32} (h0 : 0 ≤ i.toInt) (h1 : i.toInt < n) (hx : ck_in sg i.toInt.toNat x) (hx2 : 0 ≤ x.toInt ∧ x.toInt ≤ 1) (hnp : ¬ ck_pr (prot t) i.toInt.toNat) (hdg : decode cc pc = .ok (.bastore, 1))
    (kk : ∀ (H1 : Heap) (locs1 : List Loc), ck_Wo D cys ty tg pvT Ex pvv H1 → va_S (ck_own ty) H0 H1 locs1 → W p l e R s m args below meth c H1 locs1 cells slots Q (F0 m (pc + 1) ls rest)) : W p l e R s m args below meth c H locs cells slots Q (F0 m pc ls (.int x :: .int i :: .ref a :: rest)) := by
  obtain ⟨ws, hP, hD, hT, hV, hE⟩ := hW
  obtain ⟨q, f, g1, g2⟩ := ck_arrI hT hta htd (by omega)
  refine va_zast hexec hb hK hP hD hS q 2 g1 rfl (ck_vin h0 h1) hdg (fun H1 locs1 hP1 hD1 hS1 => ?_)
  rw [ck_nb2 hx2] at hP1 hD1
  obtain ⟨pvv', ⟨n1, n2, n3⟩, n4, n5⟩ := ck_stI (i := i.toNatClampNeg) (x := x) hU hD hT hV hE hX hta htd (by omega) g1 g2 hx hnp
  have e5 : pvv' = pvv := funext (fun j => n5 j (hnf j _))
  subst e5
  exact kk H1 locs1 ⟨_, hP1, hD1, n1, n2, n3⟩ hS1
theorem ck_last (hexec : p.tables.exec = Jvm.exec) (hb : c.code = cc) (hK : va_K D ck_cl (ck_tys cys) s) (hX : ck_ExP ty prot Ex) (hW : ck_Wo D cys ty tg pvT Ex pvv H) (hS : va_S (ck_own ty) H0 H locs) {a t n et : Nat} {sg : List (Nat × Int × Int)} (hnf : ck_nf pvT t) (hta : ty a = some t) (htd : tg[t]? = some (.inr (3, n, sg, et))) {i : Int32} {x : Int64} (h0 : 0 ≤ i.toInt) (h1 : i.toInt < n) (hnp : prot t = []) (hdg : decode cc pc = .ok (.lastore, 1))
    (kk : ∀ (H1 : Heap) (locs1 : List Loc), ck_Wo D cys ty tg pvT Ex pvv H1 → va_S (ck_own ty) H0 H1 locs1 → W p l e R s m args below meth c H1 locs1 cells slots Q (F0 m (pc + 1) ls rest)) : W p l e R s m args below meth c H locs cells slots Q (F0 m pc ls (.long x :: .int i :: .ref a :: rest)) := by
  obtain ⟨ws, hP, hD, hT, hV, hE⟩ := hW
  obtain ⟨q, f, g1⟩ := ck_arrL hT hta htd
  refine va_last hexec hb hK hP hD hS q 3 g1 rfl (ck_vin h0 h1) hdg (fun H1 locs1 hP1 hD1 hS1 => ?_)
  obtain ⟨n1, n2, n3⟩ := ck_set (prot := prot) (en' := .inl (cys 3, n, .inr (.inl (vp_updL f i.toNatClampNeg x)))) hD hT hV hE hX g1 hta htd (Or.inr (Or.inl ⟨rfl, _, rfl⟩)) ⟨rfl, rfl, hnp⟩ (ck_noobj hnf)
  exact kk H1 locs1 ⟨_, hP1, hD1, n1, n2, n3⟩ hS1
theorem ck_copyi (hexec : p.tables.exec = Jvm.exec) (hb : c.code = cc) (hml : c.maxLocals = ls.size) (hts : ∀ w ∈ Ts, w.before args s = true) (hin : ∀ w ∈ wsL_law0, w ∈ Ts) {index : Nat} (hown : s.vm.findClass own = some m.cls) (hlink : Jvm.Cond.methodLink own index arraycopyName ∈ wsL_law0) (hnat : Jvm.Cond.native arraycopyName ∈ wsL_law0) (hstat : Jvm.Cond.static arraycopyName ∈ wsL_law0) (hini : Jvm.Cond.initialized "java/lang/System" ∈ wsL_law0)
    (hK : va_K D ck_cl (ck_tys cys) s) (hX : ck_ExP ty prot Ex) (hW : ck_Wo D cys ty tg pvT Ex pvv H) (hS : va_S (ck_own ty) H0 H locs) {a a0 t n et : Nat} {sg : List (Nat × Int × Int)} (hnf : ck_nf pvT t) (hta : ty a = some t) (hta0 : ty a0 = some t) (htd : tg[t]? = some (.inr (0, n, sg, et))) (hnp : prot t = []) {sp dp k : Int32} (h1 : sp.toInt = 0) (h2 : dp.toInt = 0) (h3 : 0 ≤ k.toInt) (h4 : k.toInt ≤ n) (hfr : 1 ≤ R.frames) (hlo : (rest.map fun v => v.category).sum + 18 ≤ R.locals) (hdg : decode cc pc = .ok (.invokestatic index, 3))
    (kk : ∀ (H1 : Heap) (locs1 : List Loc), ck_Wo D cys ty tg pvT Ex pvv H1 → va_S (ck_own ty) H0 H1 locs1 → W p l e R s m args below meth c H1 locs1 cells slots Q (F0 m (pc + 3) ls rest)) : W p l e R s m args below meth c H locs cells slots Q (F0 m pc ls (.int k :: .int dp :: .ref a :: .int sp :: .ref a0 :: rest)) := by
  obtain ⟨ws, hP, hD, hT, hV, hE⟩ := hW
  obtain ⟨q, g, g1, g2⟩ := ck_arrI hT hta htd (by omega)
  obtain ⟨q0, f, f1, f2⟩ := ck_arrI hT hta0 htd (by omega)
  have e1 : sp.toNatClampNeg = 0 := by rw [ck_cl0 (by omega)]; omega
  have e2 : dp.toNatClampNeg = 0 := by rw [ck_cl0 (by omega)]; omega
  have e3 : k.toNatClampNeg = k.toInt.toNat := rfl
  refine va_copyi (own := own) hexec hb hml hown (hts _ (hin _ hlink)) (hts _ (hin _ hnat)) (hts _ (hin _ hstat)) (hts _ (hin _ hini)) hK hP hD hS q0 q 0 0 f1 g1 rfl rfl rfl (ck_nz (by omega)) (ck_nz (by omega)) (ck_nz (by omega)) (by omega) (by omega) (fun _ _ => rfl) hfr (by
    have : nativeFrameWords "java/lang/System" "arraycopy" 5 = 7 := by decide +kernel
    omega) hdg (fun H1 locs1 hP1 hD1 hS1 => ?_)
  obtain ⟨n1, n2, n3⟩ := ck_set (prot := prot) (en' := .inl (cys 0, n, .inl (va_cpy f g sp.toNatClampNeg dp.toNatClampNeg k.toNatClampNeg))) hD hT hV hE hX g1 hta htd (Or.inl ⟨by omega, _, rfl, fun j hj => by
      rw [e1, e2]
      by_cases hh : j < 0 + k.toNatClampNeg
      · rw [pk_cpy_in (by omega) hh]
        have := f2 j hj
        simpa [ck_in] using this
      · rw [pk_cpy_out (by omega)]
        exact g2 j hj⟩) ⟨rfl, rfl, fun z hz => by rw [hnp] at hz; obtain ⟨_, h, -⟩ := hz; cases h⟩ (ck_noobj hnf)
  exact kk H1 locs1 ⟨_, hP1, hD1, n1, n2, n3⟩ hS1
theorem ck_copyl (hexec : p.tables.exec = Jvm.exec) (hb : c.code = cc) (hml : c.maxLocals = ls.size) (hts : ∀ w ∈ Ts, w.before args s = true) (hin : ∀ w ∈ wsL_law0, w ∈ Ts) {index : Nat} (hown : s.vm.findClass own = some m.cls) (hlink : Jvm.Cond.methodLink own index arraycopyName ∈ wsL_law0) (hnat : Jvm.Cond.native arraycopyName ∈ wsL_law0) (hstat : Jvm.Cond.static arraycopyName ∈ wsL_law0) (hini : Jvm.Cond.initialized "java/lang/System" ∈ wsL_law0)
    (hK : va_K D ck_cl (ck_tys cys) s) (hX : ck_ExP ty prot Ex) (hW : ck_Wo D cys ty tg pvT Ex pvv H) (hS : va_S (ck_own ty) H0 H locs) {a a0 t n et : Nat} {sg : List (Nat × Int × Int)} (hnf : ck_nf pvT t) (hta : ty a = some t) (hta0 : ty a0 = some t) (htd : tg[t]? = some (.inr (3, n, sg, et))) (hnp : prot t = []) {sp dp k : Int32} (h1 : sp.toInt = 0) (h2 : dp.toInt = 0) (h3 : 0 ≤ k.toInt) (h4 : k.toInt ≤ n) (hfr : 1 ≤ R.frames) (hlo : (rest.map fun v => v.category).sum + 18 ≤ R.locals) (hdg : decode cc pc = .ok (.invokestatic index, 3))
    (kk : ∀ (H1 : Heap) (locs1 : List Loc), ck_Wo D cys ty tg pvT Ex pvv H1 → va_S (ck_own ty) H0 H1 locs1 → W p l e R s m args below meth c H1 locs1 cells slots Q (F0 m (pc + 3) ls rest)) : W p l e R s m args below meth c H locs cells slots Q (F0 m pc ls (.int k :: .int dp :: .ref a :: .int sp :: .ref a0 :: rest)) := by
  obtain ⟨ws, hP, hD, hT, hV, hE⟩ := hW
  obtain ⟨q, g, g1⟩ := ck_arrL hT hta htd
  obtain ⟨q0, f, f1⟩ := ck_arrL hT hta0 htd
  have e1 : sp.toNatClampNeg = 0 := by rw [ck_cl0 (by omega)]; omega
  have e2 : dp.toNatClampNeg = 0 := by rw [ck_cl0 (by omega)]; omega
  have e3 : k.toNatClampNeg = k.toInt.toNat := rfl
  refine va_copyl (own := own) hexec hb hml hown (hts _ (hin _ hlink)) (hts _ (hin _ hnat)) (hts _ (hin _ hstat)) (hts _ (hin _ hini)) hK hP hD hS q0 q 3 3 f1 g1 rfl rfl rfl (ck_nz (by omega)) (ck_nz (by omega)) (ck_nz (by omega)) (by omega) (by omega) (fun _ _ => rfl) hfr (by
    have : nativeFrameWords "java/lang/System" "arraycopy" 5 = 7 := by decide +kernel
    omega) hdg (fun H1 locs1 hP1 hD1 hS1 => ?_)
  obtain ⟨n1, n2, n3⟩ := ck_set (prot := prot) (en' := .inl (cys 3, n, .inr (.inl (va_cpy f g sp.toNatClampNeg dp.toNatClampNeg k.toNatClampNeg)))) hD hT hV hE hX g1 hta htd (Or.inr (Or.inl ⟨rfl, _, rfl⟩)) ⟨rfl, rfl, hnp⟩ (ck_noobj hnf)
  exact kk H1 locs1 ⟨_, hP1, hD1, n1, n2, n3⟩ hS1
end CK4
end
section
/-! THE CHECKER, 4: contracts as data, one step, its meaning. -/
/-- one way to end: what is answered; which argument (by place) is in which range then; the followed fields -/
abbrev ck_Case : Type := Option ck_AV × List (Nat × Int × Int) × List ck_AV
abbrev ck_Rk : Type := Int × List (Nat × Int)
abbrev ck_An : Type := Nat × ck_AS × ck_Rk
/-- a method's contract: name, bytes, locals, type, own place; arguments, fields ahead, ends, frames, words; what holds at places -/
abbrev ck_K : Type := MethodName × ByteArray × Nat × Option FieldType × Nat × List ck_AV × List ck_AV × List ck_Case × Nat × Nat × List ck_An
def k_y (k : ck_K) : MethodName := k.1
def k_cc (k : ck_K) : ByteArray := k.2.1
def k_ml (k : ck_K) : Nat := k.2.2.1
def k_rt (k : ck_K) : Option FieldType := k.2.2.2.1
def k_ow (k : ck_K) : Nat := k.2.2.2.2.1
def k_pa (k : ck_K) : List ck_AV := k.2.2.2.2.2.1
def k_pr (k : ck_K) : List ck_AV := k.2.2.2.2.2.2.1
def k_cs (k : ck_K) : List ck_Case := k.2.2.2.2.2.2.2.1
def k_fr (k : ck_K) : Nat := k.2.2.2.2.2.2.2.2.1
def k_lo (k : ck_K) : Nat := k.2.2.2.2.2.2.2.2.2.1
def k_an (k : ck_K) : List ck_An := k.2.2.2.2.2.2.2.2.2.2
/-- what an entry of a class's pool is: a field (place in ck_cl, slot; 0 an int, 1 a boolean, 2 a long that may be written, 3 read only), an int, a long, a method (0 virtual, 1 static, 2 static of a nest mate; the contracts that may serve), arraycopy -/
abbrev ck_En : Type := (Nat × Nat × Nat) ⊕ (Int ⊕ (Unit ⊕ ((Nat × List Nat) ⊕ Unit)))
def ck_R (o : Nat) : String := match o with
  | 0 => RX0 | 1 => RX1 | 2 => RX2 | 3 => RX3 | 4 => RX4 | 5 => RX5 | 6 => RX6 | 7 => RX7 | 8 => RX8 | 9 => RX9 | 10 => RX10 | 11 => RX11 | 12 => RX12
  | 13 => RJ6 | 14 => RJ9 | 15 => RJ7 | _ => ""
def ck_ws (k : ck_K) : List Jvm.Cond := Jvm.Cond.code (k_y k) (k_cc k) (k_ml k) (k_rt k) :: wsL_law0
def ck_rm (k : ck_K) : Room := { frames := k_fr k, cells := 0, slots := 0, locals := k_lo k }
def ck_nest : List Jvm.Cond := [.methodLinkNest RX1 81 yX11_has RX11, .methodLinkNest RX2 81 yX11_has RX11, .methodLinkNest RX5 61 yX11_has RX11, .methodLinkNest RX6 93 yX11_has RX11, .methodLinkNest RX7 96 yX11_has RX11, .methodLinkNest RX9 136 yX11_has RX11]
def ck_XE (pvv : Nat → Int32) : Nat → Int := fun n => (pvv (n / 2 - 1000)).toInt
def ck_args (ty : Nat → Option Nat) : List ck_AV → List Value → Prop
  | [], [] => True
  | av :: pa, v :: vs => ck_v ty (fun _ => 0) av v ∧ ck_args ty pa vs
  | _, _ => False
def ck_pvo (ty : Nat → Option Nat) (X : Nat → Int) (pv : List ck_AV) (pvv : Nat → Int32) : Prop := ∀ (j : Nat) (av : ck_AV), pv[j]? = some av → ck_v ty X av (.int (pvv j))
def ck_rv (ty : Nat → Option Nat) (av : Option ck_AV) (r : Option Value) : Prop := match av, r with
  | none, none => True
  | some av, some v => ck_v ty (fun _ => 0) av v
  | _, _ => False
def ck_caseOK (ty : Nat → Option Nat) (cs : ck_Case) (vs : List Value) (pvv pvv' : Nat → Int32) (r : Option Value) : Prop :=
  ck_rv ty cs.1 r ∧ (∀ q ∈ cs.2.1, ∃ x : Int32, vs[q.1]? = some (.int x) ∧ q.2.1 ≤ x.toInt ∧ x.toInt ≤ q.2.2) ∧ ck_pvo ty (ck_XE pvv) cs.2.2 pvv'
def ck_Qc (D : va_G) (cys : Nat → ClassId) (ty : Nat → Option Nat) (tg : List ck_TD) (pvT : List (Nat × Nat)) (Ex : va_W → Prop) (k : ck_K) (vs : List Value) (pvv : Nat → Int32) : Array Value → State → Outcome → State → Prop := fun _ st oc t =>
  (∃ cs ∈ k_cs k, ∃ (r : Option Value) (pvv' : Nat → Int32), oc = .returned r ∧ ck_caseOK ty cs vs pvv pvv' r ∧ ck_Wo D cys ty tg pvT Ex pvv' t.heap) ∧ va_F (ck_own ty) st t
def ck_B (D : va_G) (cys : Nat → ClassId) (ty : Nat → Option Nat) (tg : List ck_TD) (pvT : List (Nat × Nat)) (Ex : va_W → Prop) (pvv : Nat → Int32) (U : State) : Prop := ck_Wo D cys ty tg pvT Ex pvv U.heap ∧ va_K D ck_cl (ck_tys cys) U ∧ ∀ w ∈ ck_nest, va_Nw w U
def ck_Holds (l : Launch) (D : va_G) (cys : Nat → ClassId) (ty : Nat → Option Nat) (tg : List ck_TD) (pvT : List (Nat × Nat)) (Ex : va_W → Prop) (k : ck_K) : Prop := ∀ (vs : List Value) (pvv : Nat → Int32), ck_args ty (k_pa k) vs → ck_pvo ty (ck_XE pvv) (k_pr k) pvv → Met l (k_y k) (ck_ws k) (ck_rm k) (va_Pc vs (ck_B D cys ty tg pvT Ex pvv)) (ck_Qc D cys ty tg pvT Ex k vs pvv) 0 0 (ck_own ty)
/-! locals and stack -/
def ck_L (ty : Nat → Option Nat) (X : Nat → Int) : List (Nat × ck_AV) → List (Nat × Value) → Prop
  | [], [] => True
  | q :: L, r :: lv => (q.1 = r.1 ∧ ck_v ty X q.2 r.2) ∧ ck_L ty X L lv
  | _, _ => False
def ck_src (lv : List (Nat × Value)) (pvv : Nat → Int32) (src : Nat) (v : Value) : Prop := (src < 1000 → ∀ r ∈ lv, r.1 + 1 = src → r.2 = v) ∧ (1000 ≤ src → v = .int (pvv (src - 1000)))
def ck_st (ty : Nat → Option Nat) (X : Nat → Int) (lv : List (Nat × Value)) (pvv : Nat → Int32) : List (ck_AV × Nat) → List Value → Prop
  | [], [] => True
  | q :: st, v :: vs => (ck_v ty X q.1 v ∧ ck_src lv pvv q.2 v) ∧ ck_st ty X lv pvv st vs
  | _, _ => False
def ck_load : List (Nat × ck_AV) → Nat → Option ck_AV
  | [], _ => none
  | q :: r, i => if q.1 = i then some q.2 else ck_load r i
theorem ck_load_ok {ty : Nat → Option Nat} {X : Nat → Int} {i : Nat} {av : ck_AV} : ∀ {L : List (Nat × ck_AV)} {lv : List (Nat × Value)}, ck_L ty X L lv → ck_load L i = some av → ∃ v, (i, v) ∈ lv ∧ ck_v ty X av v
  | [], [], _, h => by cases h
  | q :: L, r :: lv, hL, h => by
    unfold ck_load at h
    split at h
    · next e =>
      cases h
      refine ⟨r.2, ?_, hL.1.2⟩
      rw [← e, hL.1.1]
      exact List.mem_cons_self
    · obtain ⟨v, h1, h2⟩ := ck_load_ok hL.2 h
      exact ⟨v, List.mem_cons_of_mem _ h1, h2⟩
def ck_put1 (L : List (Nat × ck_AV)) (i : Nat) (av : ck_AV) : List (Nat × ck_AV) := (i, av) :: L.filter (fun q => !(q.1 == i) && !(q.1 + 1 == i && ck_cat q.2 == 2))
theorem ck_filter_ok {ty : Nat → Option Nat} {X : Nat → Int} {i : Nat} : ∀ {L : List (Nat × ck_AV)} {lv : List (Nat × Value)}, ck_L ty X L lv → ck_L ty X (L.filter (fun q => !(q.1 == i) && !(q.1 + 1 == i && ck_cat q.2 == 2))) (lv.filter (fun q => !(q.1 == i) && !(q.1 + 1 == i && q.2.category == 2)))
  | [], [], _ => True.intro
  | q :: L, r :: lv, hL => by
    have ih := ck_filter_ok (i := i) hL.2
    have e1 := hL.1.1
    have e2 := ck_v_cat hL.1.2
    rw [List.filter_cons, List.filter_cons, e2, ← e1]
    split
    · exact ⟨hL.1, ih⟩
    · exact ih
def ck_clr (f : Nat → Bool) (st : List (ck_AV × Nat)) : List (ck_AV × Nat) := st.map (fun q => if f q.2 then (q.1, 0) else q)
theorem ck_clr_ok {ty : Nat → Option Nat} {X : Nat → Int} {lv lv' : List (Nat × Value)} {pvv pvv' : Nat → Int32} {f : Nat → Bool} (h : ∀ src v, f src = false → ck_src lv pvv src v → ck_src lv' pvv' src v) : ∀ {st : List (ck_AV × Nat)} {vs : List Value}, ck_st ty X lv pvv st vs → ck_st ty X lv' pvv' (ck_clr f st) vs
  | [], [], _ => True.intro
  | q :: st, v :: vs, hs => by
    have ih := ck_clr_ok h hs.2
    refine ⟨?_, ih⟩
    dsimp only
    by_cases e : f q.2 = true
    · rw [if_pos e]
      exact ⟨hs.1.1, fun _ r _ hr => by omega, fun hr => by omega⟩
    · rw [if_neg e]
      exact ⟨hs.1.1, h _ _ (by simpa using e) hs.1.2⟩
abbrev ck_Ds : Type := List (Nat × Int × Int)
def ck_meetI (r : ck_I) (lo hi : Int) (ds : ck_Ds) : ck_I := (max r.1 lo, min r.2.1 hi, ds ++ r.2.2)
def ck_meet (av : ck_AV) (lo hi : Int) (ds : ck_Ds) : ck_AV := match av with
  | .inl r => .inl (ck_meetI r lo hi ds)
  | x => x
theorem ck_meet_ok {ty : Nat → Option Nat} {X : Nat → Int} {av : ck_AV} {x : Int32} {lo hi : Int} {ds : ck_Ds} (h : ck_v ty X av (.int x)) (h1 : lo ≤ x.toInt) (h2 : x.toInt ≤ hi) (hd : ck_d X x.toInt ds) : ck_v ty X (ck_meet av lo hi ds) (.int x) := by
  match av, h with
  | .inl r, h =>
    obtain ⟨y, e, a1, a2, a3⟩ := h
    cases e
    exact ⟨x, rfl, by simp only [ck_meetI]; omega, by simp only [ck_meetI]; omega, ck_d_app hd a3⟩
  | .inr (.inl t), h => obtain ⟨a, e, -⟩ := h; cases e
  | .inr (.inr u), h => obtain ⟨a, e⟩ := h; cases e
def ck_refL (L : List (Nat × ck_AV)) (src : Nat) (lo hi : Int) (ds : ck_Ds) : List (Nat × ck_AV) := L.map (fun q => if q.1 + 1 = src then (q.1, ck_meet q.2 lo hi ds) else q)
theorem ck_refL_ok {ty : Nat → Option Nat} {X : Nat → Int} {src : Nat} {x : Int32} {lo hi : Int} {ds : ck_Ds} (h1 : lo ≤ x.toInt) (h2 : x.toInt ≤ hi) (hd : ck_d X x.toInt ds) : ∀ {L : List (Nat × ck_AV)} {lv : List (Nat × Value)}, ck_L ty X L lv → (∀ r ∈ lv, r.1 + 1 = src → r.2 = .int x) → ck_L ty X (ck_refL L src lo hi ds) lv
  | [], [], _, _ => True.intro
  | q :: L, r :: lv, hL, hs => by
    have ih := ck_refL_ok h1 h2 hd hL.2 (fun r hr => hs r (List.mem_cons_of_mem _ hr))
    refine ⟨?_, ih⟩
    dsimp only
    by_cases e : q.1 + 1 = src
    · rw [if_pos e]
      have e2 := hs r List.mem_cons_self (by rw [← hL.1.1]; exact e)
      have e3 := hL.1.2
      rw [e2] at e3
      refine ⟨hL.1.1, ?_⟩
      rw [e2]
      exact ck_meet_ok e3 h1 h2 hd
    · rw [if_neg e]
      exact hL.1
def ck_refP (pv : List ck_AV) (j : Nat) (lo hi : Int) (ds : ck_Ds) : List ck_AV := match pv[j]? with
  | some av => pv.set j (ck_meet av lo hi ds)
  | none => pv
theorem ck_refP_ok {ty : Nat → Option Nat} {X : Nat → Int} {pv : List ck_AV} {pvv : Nat → Int32} {j : Nat} {lo hi : Int} {ds : ck_Ds} (h : ck_pvo ty X pv pvv) (h1 : lo ≤ (pvv j).toInt) (h2 : (pvv j).toInt ≤ hi) (hd : ck_d X (pvv j).toInt ds) : ck_pvo ty X (ck_refP pv j lo hi ds) pvv := by
  unfold ck_refP
  split
  · next av e =>
    intro i bv hi'
    by_cases hij : j = i
    · subst hij
      rw [List.getElem?_set_self (List.getElem?_eq_some_iff.mp e).1] at hi'
      cases hi'
      exact ck_meet_ok (h j av e) h1 h2 hd
    · rw [List.getElem?_set_ne hij] at hi'
      exact h i bv hi'
  · exact h
def ck_ref (A : ck_AS) (src : Nat) (lo hi : Int) (ds : ck_Ds) : ck_AS := (if src < 1000 then ck_refL A.1 src lo hi ds else A.1, A.2.1, if 1000 ≤ src then ck_refP A.2.2 (src - 1000) lo hi ds else A.2.2)
/-- what a state of the machine is to a state of the checker -/
def ck_sat (D : va_G) (cys : Nat → ClassId) (ty : Nat → Option Nat) (tg : List ck_TD) (pvT : List (Nat × Nat)) (Ex : va_W → Prop) (nL : Nat) (H0 : Heap) (X : Nat → Int) (A : ck_AS) (ls : Array Slot) (st : List Value) (pvv : Nat → Int32) (H : Heap) (locs : List Loc) : Prop :=
  ∃ lv : List (Nat × Value), lv_has ls nL lv ∧ ck_L ty X A.1 lv ∧ ck_st ty X lv pvv A.2.1 st ∧ ck_pvo ty X A.2.2 pvv ∧ ck_Wo D cys ty tg pvT Ex pvv H ∧ va_S (ck_own ty) H0 H locs
theorem ck_ref_ok {ty : Nat → Option Nat} {X : Nat → Int} {lv : List (Nat × Value)} {pvv : Nat → Int32} {L : List (Nat × ck_AV)} {pv : List ck_AV} {src : Nat} {x : Int32} {lo hi : Int} {ds : ck_Ds} (hs : ck_src lv pvv src (.int x)) (h1 : lo ≤ x.toInt) (h2 : x.toInt ≤ hi) (hd : ck_d X x.toInt ds) (hL : ck_L ty X L lv) (hp : ck_pvo ty X pv pvv) :
    ck_L ty X (if src < 1000 then ck_refL L src lo hi ds else L) lv ∧ ck_pvo ty X (if 1000 ≤ src then ck_refP pv (src - 1000) lo hi ds else pv) pvv := by
  by_cases e : src < 1000
  · rw [if_pos e, if_neg (by omega)]
    exact ⟨ck_refL_ok h1 h2 hd hL (hs.1 e), hp⟩
  · rw [if_neg e, if_pos (by omega)]
    have e2 := hs.2 (by omega)
    cases e2
    exact ⟨hL, ck_refP_ok hp h1 h2 hd⟩
/-! a range of a value is a range of its starting value, and so of all that is tied to it -/
def ck_redG (x : Nat) (a b : Int) : ck_Ds → ck_I → ck_I
  | [], r => r
  | d :: ds, r => ck_redG x a b ds (if d.1 = x then (max r.1 (a + d.2.1), min r.2.1 (b + d.2.2), r.2.2) else r)
theorem ck_redG_ok {X : Nat → Int} {x : Nat} {a b n : Int} (h1 : a ≤ X x) (h2 : X x ≤ b) : ∀ {ds : ck_Ds} {r : ck_I}, ck_d X n ds → ck_i X r n → ck_i X (ck_redG x a b ds r) n
  | [], r, _, hr => hr
  | d :: ds, r, hd, hr => by
    unfold ck_redG
    refine ck_redG_ok h1 h2 (fun z hz => hd z (List.mem_cons_of_mem _ hz)) ?_
    split
    · next e =>
      have h3 := hd d List.mem_cons_self
      rw [e] at h3
      obtain ⟨r1, r2, r3⟩ := hr
      exact ⟨by dsimp only; omega, by dsimp only; omega, r3⟩
    · exact hr
def ck_redV (x : Nat) (a b : Int) (av : ck_AV) : ck_AV := match av with
  | .inl r => .inl (ck_redG x a b r.2.2 r)
  | y => y
theorem ck_redV_ok {ty : Nat → Option Nat} {X : Nat → Int} {x : Nat} {a b : Int} (h1 : a ≤ X x) (h2 : X x ≤ b) {av : ck_AV} {v : Value} (h : ck_v ty X av v) : ck_v ty X (ck_redV x a b av) v := by
  match av, h with
  | .inl r, h =>
    obtain ⟨y, e, g⟩ := h
    exact ⟨y, e, ck_redG_ok h1 h2 g.2.2 g⟩
  | .inr (.inl t), h => exact h
  | .inr (.inr u), h => exact h
def ck_redL (x : Nat) (a b : Int) (L : List (Nat × ck_AV)) : List (Nat × ck_AV) := L.map (fun q => (q.1, ck_redV x a b q.2))
theorem ck_redL_ok {ty : Nat → Option Nat} {X : Nat → Int} {x : Nat} {a b : Int} (h1 : a ≤ X x) (h2 : X x ≤ b) : ∀ {L : List (Nat × ck_AV)} {lv : List (Nat × Value)}, ck_L ty X L lv → ck_L ty X (ck_redL x a b L) lv
  | [], [], _ => True.intro
  | q :: L, r :: lv, h => ⟨⟨h.1.1, ck_redV_ok h1 h2 h.1.2⟩, ck_redL_ok h1 h2 h.2⟩
theorem ck_redP_ok {ty : Nat → Option Nat} {X : Nat → Int} {x : Nat} {a b : Int} (h1 : a ≤ X x) (h2 : X x ≤ b) {P : List ck_AV} {pvv : Nat → Int32} (h : ck_pvo ty X P pvv) : ck_pvo ty X (P.map (ck_redV x a b)) pvv := by
  intro j av hj
  rw [List.getElem?_map] at hj
  cases hq : P[j]? with
  | none => rw [hq] at hj; cases hj
  | some bv =>
    rw [hq] at hj
    cases hj
    exact ck_redV_ok h1 h2 (h j bv hq)
def ck_redLP (lo hi : Int) : ck_Ds → List (Nat × ck_AV) × List ck_AV → List (Nat × ck_AV) × List ck_AV
  | [], q => q
  | d :: ds, q => ck_redLP lo hi ds (ck_redL d.1 (lo - d.2.2) (hi - d.2.1) q.1, q.2.map (ck_redV d.1 (lo - d.2.2) (hi - d.2.1)))
theorem ck_redLP_ok {ty : Nat → Option Nat} {X : Nat → Int} {lv : List (Nat × Value)} {pvv : Nat → Int32} {lo hi n : Int} (h1 : lo ≤ n) (h2 : n ≤ hi) : ∀ {ds : ck_Ds} {q : List (Nat × ck_AV) × List ck_AV}, ck_d X n ds → ck_L ty X q.1 lv → ck_pvo ty X q.2 pvv → ck_L ty X (ck_redLP lo hi ds q).1 lv ∧ ck_pvo ty X (ck_redLP lo hi ds q).2 pvv
  | [], q, _, hL, hP => ⟨hL, hP⟩
  | d :: ds, q, hd, hL, hP => by
    have h3 := hd d List.mem_cons_self
    unfold ck_redLP
    exact ck_redLP_ok h1 h2 (fun z hz => hd z (List.mem_cons_of_mem _ hz)) (ck_redL_ok (by omega) (by omega) hL) (ck_redP_ok (by omega) (by omega) hP)
def ck_redA (A : ck_AS) (lo hi : Int) (ds : ck_Ds) : ck_AS := ((ck_redLP lo hi ds (A.1, A.2.2)).1, A.2.1, (ck_redLP lo hi ds (A.1, A.2.2)).2)
end
section
/-! THE CHECKER, 5: constants, locals, arithmetic, the stack. -/
theorem ck_ofI {n : Int} (h : ck_in32 n n = true) : (Int32.ofInt n).toInt = n := by
  simp only [ck_in32, Bool.and_eq_true, decide_eq_true_eq] at h
  rw [Int32.toInt_ofInt]
  exact ck_bm h.1 h.2
theorem ck_of8 {n : Int} (h1 : -128 ≤ n) (h2 : n ≤ 127) : ((Int8.ofInt n).toInt32).toInt = n := by
  rw [Int8.toInt_toInt32, Int8.toInt_ofInt, show Int8.size = 256 from rfl]
  unfold Int.bmod
  simp only []
  omega
theorem ck_of16 {n : Int} (h1 : -32768 ≤ n) (h2 : n ≤ 32767) : ((Int16.ofInt n).toInt32).toInt = n := by
  rw [Int16.toInt_toInt32, Int16.toInt_ofInt, show Int16.size = 65536 from rfl]
  unfold Int.bmod
  simp only []
  omega
theorem ck_src0 {lv : List (Nat × Value)} {pvv : Nat → Int32} {v : Value} : ck_src lv pvv 0 v := ⟨fun _ r _ h => by omega, fun h => by omega⟩
theorem ck_ci {X : Nat → Int} {n : Int} {x : Int32} (h : x.toInt = n) : ck_i X (n, n, []) x.toInt := ⟨by rw [h]; exact Int.le_refl _, by rw [h]; exact Int.le_refl _, fun d h => nomatch h⟩
section CK6
variable {p : Program} {l : Launch} {e : Env} {R : Room} {s : State} {m : MethodId} {args : Array Value} {below : List Frame} {meth : Method} {c : Code} {H H0 : Heap} {locs : List Loc} {Q : State → Prop} {cc : ByteArray} {pc len : Nat} {ls : Array Slot} {st : List Value}
variable {D : va_G} {cys : Nat → ClassId} {ty : Nat → Option Nat} {tg : List ck_TD} {pvT : List (Nat × Nat)} {prot : Nat → List (Nat × Nat)} {Ex : va_W → Prop} {pvv : Nat → Int32} {Ts : List Jvm.Cond} {LK : Nat → Nat → Option ck_En} {o nL : Nat} {X : Nat → Int} {A : ck_AS} {out : List (Nat × ck_AS)} {i : Instr}
theorem ck_push {av : ck_AV} {v : Value} (hsat : ck_sat D cys ty tg pvT Ex nL H0 X A ls st pvv H locs) (h : ck_v ty X av v) : ck_sat D cys ty tg pvT Ex nL H0 X (A.1, (av, 0) :: A.2.1, A.2.2) ls (v :: st) pvv H locs := by
  obtain ⟨lv, h1, h2, h3, h4, h5, h6⟩ := hsat
  exact ⟨lv, h1, h2, ⟨⟨h, ck_src0⟩, h3⟩, h4, h5, h6⟩
def ck_g1 (LK : Nat → Nat → Option ck_En) (o pc : Nat) (i : Instr) (len : Nat) (A : ck_AS) : Option (List (Nat × ck_AS)) := match i, len with
  | .iconst n, 1 => if ck_in32 n n then some [(pc + 1, (A.1, (.inl (n, n, []), 0) :: A.2.1, A.2.2))] else none
  | .bipush n, 2 => if decide (-128 ≤ n) && decide (n ≤ 127) then some [(pc + 2, (A.1, (.inl (n, n, []), 0) :: A.2.1, A.2.2))] else none
  | .sipush n, 3 => if decide (-32768 ≤ n) && decide (n ≤ 32767) then some [(pc + 3, (A.1, (.inl (n, n, []), 0) :: A.2.1, A.2.2))] else none
  | .lconst _, 1 => some [(pc + 1, (A.1, (.inr (.inr ()), 0) :: A.2.1, A.2.2))]
  | .ldc ix, 2 => match LK o ix with
    | some (.inr (.inl v)) => if ck_in32 v v then some [(pc + 2, (A.1, (.inl (v, v, []), 0) :: A.2.1, A.2.2))] else none
    | _ => none
  | .ldc_w ix, 3 => match LK o ix with
    | some (.inr (.inl v)) => if ck_in32 v v then some [(pc + 3, (A.1, (.inl (v, v, []), 0) :: A.2.1, A.2.2))] else none
    | _ => none
  | .ldc2_w ix, 3 => match LK o ix with
    | some (.inr (.inr (.inl _))) => some [(pc + 3, (A.1, (.inr (.inr ()), 0) :: A.2.1, A.2.2))]
    | _ => none
  | _, _ => none
def ck_LKc (LK : Nat → Nat → Option ck_En) : Prop := ∀ (o ix : Nat), (∀ v, LK o ix = some (.inr (.inl v)) → Jvm.Cond.constant (ck_R o) ix (Int32.ofInt v) ∈ wsL_law0) ∧ (∀ u, LK o ix = some (.inr (.inr (.inl u))) → ∃ v : Int64, Jvm.Cond.constantLong (ck_R o) ix v ∈ wsL_law0)
theorem ck_g1_ok (hLK : ck_LKc LK) (hexec : p.tables.exec = Jvm.exec) (hb : c.code = cc) (hts : ∀ w ∈ Ts, w.before args s = true) (hin : ∀ w ∈ wsL_law0, w ∈ Ts) (hown : s.vm.findClass (ck_R o) = some m.cls) (h : ck_g1 LK o pc i len A = some out) (hdg : decode cc pc = .ok (i, len)) (hsat : ck_sat D cys ty tg pvT Ex nL H0 X A ls st pvv H locs) (hn : ∀ q ∈ out, ∀ (ls' : Array Slot) (st' : List Value) (pvv' : Nat → Int32) (H' : Heap) (locs' : List Loc), ck_sat D cys ty tg pvT Ex nL H0 X q.2 ls' st' pvv' H' locs' → W p l e R s m args below meth c H' locs' 0 0 Q (F0 m q.1 ls' st')) : W p l e R s m args below meth c H locs 0 0 Q (F0 m pc ls st) := by
  unfold ck_g1 at h
  split at h
  · split at h
    · next hc =>
      cases h
      refine lv_iconst hexec hb hdg rfl ?_
      exact hn _ List.mem_cons_self _ _ _ _ _ (ck_push hsat ⟨_, rfl, ck_ci (ck_ofI hc)⟩)
    · cases h
  · split at h
    · next hc =>
      cases h
      simp only [Bool.and_eq_true, decide_eq_true_eq] at hc
      refine lv_bipush hexec hb hdg rfl ?_
      exact hn _ List.mem_cons_self _ _ _ _ _ (ck_push hsat ⟨_, rfl, ck_ci (ck_of8 hc.1 hc.2)⟩)
    · cases h
  · split at h
    · next hc =>
      cases h
      simp only [Bool.and_eq_true, decide_eq_true_eq] at hc
      refine lv_sipush hexec hb hdg rfl ?_
      exact hn _ List.mem_cons_self _ _ _ _ _ (ck_push hsat ⟨_, rfl, ck_ci (ck_of16 hc.1 hc.2)⟩)
    · cases h
  · cases h
    refine lv_lconst hexec hb hdg rfl ?_
    exact hn _ List.mem_cons_self _ _ _ _ _ (ck_push hsat ⟨_, rfl⟩)
  · split at h
    · next hl =>
      split at h
      · next hc =>
        cases h
        refine lv_ldc hexec hb hown (hts _ (hin _ ((hLK _ _).1 _ hl))) hdg ?_
        exact hn _ List.mem_cons_self _ _ _ _ _ (ck_push hsat ⟨_, rfl, ck_ci (ck_ofI hc)⟩)
      · cases h
    · cases h
  · split at h
    · next hl =>
      split at h
      · next hc =>
        cases h
        refine lv_ldcw hexec hb hown (hts _ (hin _ ((hLK _ _).1 _ hl))) hdg ?_
        exact hn _ List.mem_cons_self _ _ _ _ _ (ck_push hsat ⟨_, rfl, ck_ci (ck_ofI hc)⟩)
      · cases h
    · cases h
  · split at h
    · next hl =>
      cases h
      obtain ⟨v, hv⟩ := (hLK _ _).2 _ hl
      refine lv_ldc2 hexec hb hown (hts _ (hin _ hv)) hdg ?_
      exact hn _ List.mem_cons_self _ _ _ _ _ (ck_push hsat ⟨_, rfl⟩)
    · cases h
  · cases h
def ck_ldI (A : ck_AS) (pc i : Nat) : Option (List (Nat × ck_AS)) := match ck_load A.1 i with
  | some (.inl r) => if i < 900 then some [(pc, (A.1, (.inl r, i + 1) :: A.2.1, A.2.2))] else none
  | _ => none
def ck_ldR (A : ck_AS) (pc i : Nat) : Option (List (Nat × ck_AS)) := match ck_load A.1 i with
  | some (.inr (.inl t)) => some [(pc, (A.1, (.inr (.inl t), 0) :: A.2.1, A.2.2))]
  | _ => none
def ck_ldJ (A : ck_AS) (pc i : Nat) : Option (List (Nat × ck_AS)) := match ck_load A.1 i with
  | some (.inr (.inr u)) => some [(pc, (A.1, (.inr (.inr u), 0) :: A.2.1, A.2.2))]
  | _ => none
def ck_sto (nL : Nat) (A : ck_AS) (pc i : Nat) (k : Bool) : Option (List (Nat × ck_AS)) := match A.2.1 with
  | (.inl r, _) :: S => if i < nL ∧ k = true then some [(pc, (ck_put1 A.1 i (.inl r), ck_clr (fun z => z == i + 1) S, A.2.2))] else none
  | (.inr (.inl t), _) :: S => if i < nL ∧ k = false then some [(pc, (ck_put1 A.1 i (.inr (.inl t)), ck_clr (fun z => z == i + 1) S, A.2.2))] else none
  | _ => none
def ck_g2 (nL pc : Nat) (i : Instr) (len : Nat) (A : ck_AS) : Option (List (Nat × ck_AS)) := match i, len with
  | .iload_n n, 1 => ck_ldI A (pc + 1) n.val
  | .iload n, 2 => ck_ldI A (pc + 2) n
  | .aload_n n, 1 => ck_ldR A (pc + 1) n.val
  | .aload n, 2 => ck_ldR A (pc + 2) n
  | .lload_n n, 1 => ck_ldJ A (pc + 1) n.val
  | .lload n, 2 => ck_ldJ A (pc + 2) n
  | .istore_n n, 1 => ck_sto nL A (pc + 1) n.val true
  | .istore n, 2 => ck_sto nL A (pc + 2) n true
  | .astore_n n, 1 => ck_sto nL A (pc + 1) n.val false
  | .astore n, 2 => ck_sto nL A (pc + 2) n false
  | .iinc n d, 3 => match ck_load A.1 n with
    | some (.inl r) => if n < nL ∧ ck_in32 d d = true then some [(pc + 3, (ck_put1 A.1 n (.inl (ck_add r (d, d, []))), ck_clr (fun z => z == n + 1) A.2.1, A.2.2))] else none
    | _ => none
  | _, _ => none
theorem ck_srcL {lv : List (Nat × Value)} {n : Nat} {v : Value} (hl : lv_has ls nL lv) (hm : (n, v) ∈ lv) (h9 : n < 900) : ck_src lv pvv (n + 1) v := by
  refine ⟨fun _ r hr e => ?_, fun h => by omega⟩
  have e1 : r.1 = n := by omega
  have h1 := hl.2.2 r hr
  have h2 := hl.2.2 (n, v) hm
  rw [e1] at h1
  rw [h1] at h2
  cases h2
  rfl
theorem ck_ldI_ok {n pc' : Nat} (h : ck_ldI A pc' n = some out) (hsat : ck_sat D cys ty tg pvT Ex nL H0 X A ls st pvv H locs) (kk : ∀ x : Int32, ls[n]? = some (.val (.int x)) → W p l e R s m args below meth c H locs 0 0 Q (F0 m pc' ls (.int x :: st)) → W p l e R s m args below meth c H locs 0 0 Q (F0 m pc ls st)) (hn : ∀ q ∈ out, ∀ (ls' : Array Slot) (st' : List Value) (pvv' : Nat → Int32) (H' : Heap) (locs' : List Loc), ck_sat D cys ty tg pvT Ex nL H0 X q.2 ls' st' pvv' H' locs' → W p l e R s m args below meth c H' locs' 0 0 Q (F0 m q.1 ls' st')) : W p l e R s m args below meth c H locs 0 0 Q (F0 m pc ls st) := by
  unfold ck_ldI at h
  split at h
  · next r hr =>
    split at h
    · next h9 =>
      cases h
      obtain ⟨lv, h1, h2, h3, h4, h5, h6⟩ := hsat
      obtain ⟨v, g1, x, rfl, g2⟩ := ck_load_ok h2 hr
      refine kk x (h1.2.2 _ g1) ?_
      exact hn _ List.mem_cons_self _ _ _ _ _ ⟨lv, h1, h2, ⟨⟨⟨x, rfl, g2⟩, ck_srcL h1 g1 h9⟩, h3⟩, h4, h5, h6⟩
    · cases h
  · cases h
theorem ck_ldR_ok {n pc' : Nat} (h : ck_ldR A pc' n = some out) (hsat : ck_sat D cys ty tg pvT Ex nL H0 X A ls st pvv H locs) (kk : ∀ x : Nat, ls[n]? = some (.val (.ref x)) → W p l e R s m args below meth c H locs 0 0 Q (F0 m pc' ls (.ref x :: st)) → W p l e R s m args below meth c H locs 0 0 Q (F0 m pc ls st)) (hn : ∀ q ∈ out, ∀ (ls' : Array Slot) (st' : List Value) (pvv' : Nat → Int32) (H' : Heap) (locs' : List Loc), ck_sat D cys ty tg pvT Ex nL H0 X q.2 ls' st' pvv' H' locs' → W p l e R s m args below meth c H' locs' 0 0 Q (F0 m q.1 ls' st')) : W p l e R s m args below meth c H locs 0 0 Q (F0 m pc ls st) := by
  unfold ck_ldR at h
  split at h
  · next r hr =>
    cases h
    obtain ⟨lv, h1, h2, h3, h4, h5, h6⟩ := hsat
    obtain ⟨v, g1, x, rfl, g2⟩ := ck_load_ok h2 hr
    refine kk x (h1.2.2 _ g1) ?_
    exact hn _ List.mem_cons_self _ _ _ _ _ ⟨lv, h1, h2, ⟨⟨⟨x, rfl, g2⟩, ck_src0⟩, h3⟩, h4, h5, h6⟩
  · cases h
theorem ck_ldJ_ok {n pc' : Nat} (h : ck_ldJ A pc' n = some out) (hsat : ck_sat D cys ty tg pvT Ex nL H0 X A ls st pvv H locs) (kk : ∀ x : Int64, ls[n]? = some (.val (.long x)) → W p l e R s m args below meth c H locs 0 0 Q (F0 m pc' ls (.long x :: st)) → W p l e R s m args below meth c H locs 0 0 Q (F0 m pc ls st)) (hn : ∀ q ∈ out, ∀ (ls' : Array Slot) (st' : List Value) (pvv' : Nat → Int32) (H' : Heap) (locs' : List Loc), ck_sat D cys ty tg pvT Ex nL H0 X q.2 ls' st' pvv' H' locs' → W p l e R s m args below meth c H' locs' 0 0 Q (F0 m q.1 ls' st')) : W p l e R s m args below meth c H locs 0 0 Q (F0 m pc ls st) := by
  unfold ck_ldJ at h
  split at h
  · next r hr =>
    cases h
    obtain ⟨lv, h1, h2, h3, h4, h5, h6⟩ := hsat
    obtain ⟨v, g1, x, rfl⟩ := ck_load_ok h2 hr
    refine kk x (h1.2.2 _ g1) ?_
    exact hn _ List.mem_cons_self _ _ _ _ _ ⟨lv, h1, h2, ⟨⟨⟨x, rfl⟩, ck_src0⟩, h3⟩, h4, h5, h6⟩
  · cases h
/-- behind a store into a local -/
theorem ck_put1_ok {lv : List (Nat × Value)} {L : List (Nat × ck_AV)} {S : List (ck_AV × Nat)} {P : List ck_AV} {n : Nat} {av : ck_AV} {v : Value} {ls' : Array Slot} {rest : List Value} (h1 : lv_has ls' nL ((n, v) :: lv.filter (fun q => !(q.1 == n) && !(q.1 + 1 == n && q.2.category == 2)))) (h2 : ck_L ty X L lv) (hv : ck_v ty X av v) (h3 : ck_st ty X lv pvv S rest) (h4 : ck_pvo ty X P pvv) (h5 : ck_Wo D cys ty tg pvT Ex pvv H) (h6 : va_S (ck_own ty) H0 H locs) :
    ck_sat D cys ty tg pvT Ex nL H0 X (ck_put1 L n av, ck_clr (fun z => z == n + 1) S, P) ls' rest pvv H locs := by
  refine ⟨_, h1, ⟨⟨rfl, hv⟩, ck_filter_ok h2⟩, ck_clr_ok (f := fun z => z == n + 1) (lv := lv) (pvv := pvv) (fun src w hf hs => ⟨fun h9 r hr e => ?_, hs.2⟩) h3, h4, h5, h6⟩
  rcases List.mem_cons.mp hr with hr | hr
  · subst hr
    simp only [beq_eq_false_iff_ne] at hf
    exact absurd e.symm hf
  · exact hs.1 h9 r ((List.mem_filter.mp hr).1) e
theorem ck_g2_ok (hexec : p.tables.exec = Jvm.exec) (hb : c.code = cc) (h : ck_g2 nL pc i len A = some out) (hdg : decode cc pc = .ok (i, len)) (hsat : ck_sat D cys ty tg pvT Ex nL H0 X A ls st pvv H locs) (hn : ∀ q ∈ out, ∀ (ls' : Array Slot) (st' : List Value) (pvv' : Nat → Int32) (H' : Heap) (locs' : List Loc), ck_sat D cys ty tg pvT Ex nL H0 X q.2 ls' st' pvv' H' locs' → W p l e R s m args below meth c H' locs' 0 0 Q (F0 m q.1 ls' st')) : W p l e R s m args below meth c H locs 0 0 Q (F0 m pc ls st) := by
  unfold ck_g2 at h
  split at h
  · exact ck_ldI_ok h hsat (fun x hx k => lv_iload_n hexec hb hdg rfl hx k) hn
  · exact ck_ldI_ok h hsat (fun x hx k => lv_iload hexec hb hdg hx k) hn
  · exact ck_ldR_ok h hsat (fun x hx k => lv_aload_n hexec hb hdg rfl hx k) hn
  · exact ck_ldR_ok h hsat (fun x hx k => lv_aload hexec hb hdg hx k) hn
  · exact ck_ldJ_ok h hsat (fun x hx k => lv_lload_n hexec hb hdg rfl hx k) hn
  · exact ck_ldJ_ok h hsat (fun x hx k => lv_lload hexec hb hdg hx k) hn
  · obtain ⟨L, S, P⟩ := A
    unfold ck_sto at h
    split at h
    · next hS =>
      split at h
      · next hc =>
        cases h
        dsimp only at hS
        subst hS
        obtain ⟨lv, h1, h2, h3, h4, h5, h6⟩ := hsat
        match st, h3 with
        | v :: rest, h3 =>
          obtain ⟨⟨⟨x, rfl, g2⟩, -⟩, g3⟩ := h3
          refine lv_istore_n hexec hb hdg rfl h1 hc.1 rfl (fun ls' hl' => ?_)
          exact hn _ List.mem_cons_self _ _ _ _ _ (ck_put1_ok hl' h2 ⟨x, rfl, g2⟩ g3 h4 h5 h6)
      · cases h
    · split at h
      · next hc => exact absurd hc.2 (by decide)
      · cases h
    · cases h
  · obtain ⟨L, S, P⟩ := A
    unfold ck_sto at h
    split at h
    · next hS =>
      split at h
      · next hc =>
        cases h
        dsimp only at hS
        subst hS
        obtain ⟨lv, h1, h2, h3, h4, h5, h6⟩ := hsat
        match st, h3 with
        | v :: rest, h3 =>
          obtain ⟨⟨⟨x, rfl, g2⟩, -⟩, g3⟩ := h3
          refine lv_istore hexec hb hdg h1 hc.1 rfl (fun ls' hl' => ?_)
          exact hn _ List.mem_cons_self _ _ _ _ _ (ck_put1_ok hl' h2 ⟨x, rfl, g2⟩ g3 h4 h5 h6)
      · cases h
    · split at h
      · next hc => exact absurd hc.2 (by decide)
      · cases h
    · cases h
  · obtain ⟨L, S, P⟩ := A
    unfold ck_sto at h
    split at h
    · split at h
      · next hc => exact absurd hc.2 (by decide)
      · cases h
    · next hS =>
      split at h
      · next hc =>
        cases h
        dsimp only at hS
        subst hS
        obtain ⟨lv, h1, h2, h3, h4, h5, h6⟩ := hsat
        match st, h3 with
        | v :: rest, h3 =>
          obtain ⟨⟨⟨x, rfl, g2⟩, -⟩, g3⟩ := h3
          refine lv_astore_n hexec hb hdg rfl h1 hc.1 rfl (fun ls' hl' => ?_)
          exact hn _ List.mem_cons_self _ _ _ _ _ (ck_put1_ok hl' h2 ⟨x, rfl, g2⟩ g3 h4 h5 h6)
      · cases h
    · cases h
  · obtain ⟨L, S, P⟩ := A
    unfold ck_sto at h
    split at h
    · split at h
      · next hc => exact absurd hc.2 (by decide)
      · cases h
    · next hS =>
      split at h
      · next hc =>
        cases h
        dsimp only at hS
        subst hS
        obtain ⟨lv, h1, h2, h3, h4, h5, h6⟩ := hsat
        match st, h3 with
        | v :: rest, h3 =>
          obtain ⟨⟨⟨x, rfl, g2⟩, -⟩, g3⟩ := h3
          refine lv_astore hexec hb hdg h1 hc.1 rfl (fun ls' hl' => ?_)
          exact hn _ List.mem_cons_self _ _ _ _ _ (ck_put1_ok hl' h2 ⟨x, rfl, g2⟩ g3 h4 h5 h6)
      · cases h
    · cases h
  · split at h
    · next r hr =>
      split at h
      · next hc =>
        cases h
        obtain ⟨lv, h1, h2, h3, h4, h5, h6⟩ := hsat
        obtain ⟨v, g1, x, rfl, g2⟩ := ck_load_ok h2 hr
        obtain ⟨kq, hk⟩ := List.getElem?_of_mem g1
        refine lv_iinc hexec hb hdg h1 hk rfl hc.1 rfl (fun ls' hl' => ?_)
        refine hn _ List.mem_cons_self _ _ _ _ _ (ck_put1_ok hl' h2 ⟨_, rfl, ck_add_ok g2 (ck_ci (ck_ofI hc.2))⟩ h3 h4 h5 h6)
      · cases h
    · cases h
  · cases h
end CK6
end
section
/-! THE CHECKER, 6: arithmetic, the stack, branches. -/
section CK7
variable {p : Program} {l : Launch} {e : Env} {R : Room} {s : State} {m : MethodId} {args : Array Value} {below : List Frame} {meth : Method} {c : Code} {H H0 : Heap} {locs : List Loc} {Q : State → Prop} {cc : ByteArray} {pc len : Nat} {ls : Array Slot} {st : List Value}
variable {D : va_G} {cys : Nat → ClassId} {ty : Nat → Option Nat} {tg : List ck_TD} {pvT : List (Nat × Nat)} {prot : Nat → List (Nat × Nat)} {Ex : va_W → Prop} {pvv : Nat → Int32} {Ts : List Jvm.Cond} {LK : Nat → Nat → Option ck_En} {o nL : Nat} {X : Nat → Int} {A : ck_AS} {out : List (Nat × ck_AS)} {i : Instr}
/-- two ints off the stack, one on it -/
def ck_b2 (f : ck_I → ck_I → ck_I) (pc : Nat) (A : ck_AS) : Option (List (Nat × ck_AS)) := match A.2.1 with
  | (.inl b, _) :: (.inl a, _) :: S => some [(pc + 1, (A.1, (.inl (f a b), 0) :: S, A.2.2))]
  | _ => none
theorem ck_b2_ok {f : ck_I → ck_I → ck_I} {op : Int32 → Int32 → Int32} (hf : ∀ (X : Nat → Int) (a b : ck_I) (x y : Int32), ck_i X a x.toInt → ck_i X b y.toInt → ck_i X (f a b) (op x y).toInt) (h : ck_b2 f pc A = some out) (hsat : ck_sat D cys ty tg pvT Ex nL H0 X A ls st pvv H locs) (kk : ∀ (x y : Int32) (rest : List Value), st = .int y :: .int x :: rest → W p l e R s m args below meth c H locs 0 0 Q (F0 m (pc + 1) ls (.int (op x y) :: rest)) → W p l e R s m args below meth c H locs 0 0 Q (F0 m pc ls st)) (hn : ∀ q ∈ out, ∀ (ls' : Array Slot) (st' : List Value) (pvv' : Nat → Int32) (H' : Heap) (locs' : List Loc), ck_sat D cys ty tg pvT Ex nL H0 X q.2 ls' st' pvv' H' locs' → W p l e R s m args below meth c H' locs' 0 0 Q (F0 m q.1 ls' st')) : W p l e R s m args below meth c H locs 0 0 Q (F0 m pc ls st) := by
  obtain ⟨L, S, P⟩ := A
  unfold ck_b2 at h
  split at h
  · next hS =>
    cases h
    dsimp only at hS
    subst hS
    obtain ⟨lv, h1, h2, h3, h4, h5, h6⟩ := hsat
    match st, h3 with
    | v :: w :: rest, h3 =>
      obtain ⟨⟨⟨y, rfl, g2⟩, -⟩, ⟨⟨x, rfl, g4⟩, -⟩, g5⟩ := h3
      refine kk x y rest rfl ?_
      exact hn _ List.mem_cons_self _ _ _ _ _ ⟨lv, h1, h2, ⟨⟨⟨_, rfl, hf X _ _ x y g4 g2⟩, ck_src0⟩, g5⟩, h4, h5, h6⟩
  · cases h
def ck_u1 (pc : Nat) (A : ck_AS) : Option (List (Nat × ck_AS)) := match A.2.1 with
  | (.inl _, _) :: S => some [(pc + 1, (A.1, (.inl ck_full, 0) :: S, A.2.2))]
  | _ => none
theorem ck_u1_ok {op : Int32 → Int32} (h : ck_u1 pc A = some out) (hsat : ck_sat D cys ty tg pvT Ex nL H0 X A ls st pvv H locs) (kk : ∀ (x : Int32) (rest : List Value), st = .int x :: rest → W p l e R s m args below meth c H locs 0 0 Q (F0 m (pc + 1) ls (.int (op x) :: rest)) → W p l e R s m args below meth c H locs 0 0 Q (F0 m pc ls st)) (hn : ∀ q ∈ out, ∀ (ls' : Array Slot) (st' : List Value) (pvv' : Nat → Int32) (H' : Heap) (locs' : List Loc), ck_sat D cys ty tg pvT Ex nL H0 X q.2 ls' st' pvv' H' locs' → W p l e R s m args below meth c H' locs' 0 0 Q (F0 m q.1 ls' st')) : W p l e R s m args below meth c H locs 0 0 Q (F0 m pc ls st) := by
  obtain ⟨L, S, P⟩ := A
  unfold ck_u1 at h
  split at h
  · next hS =>
    cases h
    dsimp only at hS
    subst hS
    obtain ⟨lv, h1, h2, h3, h4, h5, h6⟩ := hsat
    match st, h3 with
    | v :: rest, h3 =>
      obtain ⟨⟨⟨x, rfl, g2⟩, -⟩, g5⟩ := h3
      refine kk x rest rfl ?_
      exact hn _ List.mem_cons_self _ _ _ _ _ ⟨lv, h1, h2, ⟨⟨⟨_, rfl, ck_full_ok _⟩, ck_src0⟩, g5⟩, h4, h5, h6⟩
  · cases h
def ck_jj (pc : Nat) (av : ck_AV) (A : ck_AS) : Option (List (Nat × ck_AS)) := match A.2.1 with
  | (.inr (.inr _), _) :: (.inr (.inr _), _) :: S => some [(pc + 1, (A.1, (av, 0) :: S, A.2.2))]
  | _ => none
theorem ck_jj_ok {av : ck_AV} {op : Int64 → Int64 → Value} (hv : ∀ x y, ck_v ty X av (op x y)) (h : ck_jj pc av A = some out) (hsat : ck_sat D cys ty tg pvT Ex nL H0 X A ls st pvv H locs) (kk : ∀ (x y : Int64) (rest : List Value), st = .long y :: .long x :: rest → W p l e R s m args below meth c H locs 0 0 Q (F0 m (pc + 1) ls (op x y :: rest)) → W p l e R s m args below meth c H locs 0 0 Q (F0 m pc ls st)) (hn : ∀ q ∈ out, ∀ (ls' : Array Slot) (st' : List Value) (pvv' : Nat → Int32) (H' : Heap) (locs' : List Loc), ck_sat D cys ty tg pvT Ex nL H0 X q.2 ls' st' pvv' H' locs' → W p l e R s m args below meth c H' locs' 0 0 Q (F0 m q.1 ls' st')) : W p l e R s m args below meth c H locs 0 0 Q (F0 m pc ls st) := by
  obtain ⟨L, S, P⟩ := A
  unfold ck_jj at h
  split at h
  · next hS =>
    cases h
    dsimp only at hS
    subst hS
    obtain ⟨lv, h1, h2, h3, h4, h5, h6⟩ := hsat
    match st, h3 with
    | v :: w :: rest, h3 =>
      obtain ⟨⟨⟨y, rfl⟩, -⟩, ⟨⟨x, rfl⟩, -⟩, g5⟩ := h3
      refine kk x y rest rfl ?_
      exact hn _ List.mem_cons_self _ _ _ _ _ ⟨lv, h1, h2, ⟨⟨hv x y, ck_src0⟩, g5⟩, h4, h5, h6⟩
  · cases h
def ck_g3 (pc : Nat) (i : Instr) (len : Nat) (A : ck_AS) : Option (List (Nat × ck_AS)) := match i, len with
  | .iadd, 1 => ck_b2 ck_add pc A
  | .isub, 1 => ck_b2 ck_sub pc A
  | .imul, 1 => ck_b2 ck_mul pc A
  | .iand, 1 => ck_b2 ck_and pc A
  | .ior, 1 => ck_b2 (fun _ _ => ck_full) pc A
  | .ixor, 1 => ck_b2 (fun _ _ => ck_full) pc A
  | .ishl, 1 => ck_b2 ck_shl pc A
  | .ishr, 1 => ck_b2 (fun _ _ => ck_full) pc A
  | .iushr, 1 => ck_b2 (fun _ _ => ck_full) pc A
  | .irem, 1 => match A.2.1 with
    | (.inl b, _) :: _ => if decide (1 ≤ b.1) then ck_b2 ck_rem pc A else none
    | _ => none
  | .ineg, 1 => ck_u1 pc A
  | .i2b, 1 => ck_u1 pc A
  | .i2l, 1 => match A.2.1 with
    | (.inl _, _) :: S => some [(pc + 1, (A.1, (.inr (.inr ()), 0) :: S, A.2.2))]
    | _ => none
  | .lcmp, 1 => ck_jj pc (.inl ck_full) A
  | .ladd, 1 => ck_jj pc (.inr (.inr ())) A
  | .lmul, 1 => ck_jj pc (.inr (.inr ())) A
  | .lor, 1 => ck_jj pc (.inr (.inr ())) A
  | .lshl, 1 => match A.2.1 with
    | (.inl _, _) :: (.inr (.inr _), _) :: S => some [(pc + 1, (A.1, (.inr (.inr ()), 0) :: S, A.2.2))]
    | _ => none
  | .dup, 1 => match A.2.1 with
    | q :: S => if ck_cat q.1 = 1 then some [(pc + 1, (A.1, q :: q :: S, A.2.2))] else none
    | _ => none
  | .pop, 1 => match A.2.1 with
    | q :: S => if ck_cat q.1 = 1 then some [(pc + 1, (A.1, S, A.2.2))] else none
    | _ => none
  | .dup2, 1 => match A.2.1 with
    | q :: r :: S => if ck_cat q.1 = 1 ∧ ck_cat r.1 = 1 then some [(pc + 1, (A.1, q :: r :: q :: r :: S, A.2.2))] else none
    | _ => none
  | _, _ => none
theorem ck_g3_ok (hexec : p.tables.exec = Jvm.exec) (hb : c.code = cc) (h : ck_g3 pc i len A = some out) (hdg : decode cc pc = .ok (i, len)) (hsat : ck_sat D cys ty tg pvT Ex nL H0 X A ls st pvv H locs) (hn : ∀ q ∈ out, ∀ (ls' : Array Slot) (st' : List Value) (pvv' : Nat → Int32) (H' : Heap) (locs' : List Loc), ck_sat D cys ty tg pvT Ex nL H0 X q.2 ls' st' pvv' H' locs' → W p l e R s m args below meth c H' locs' 0 0 Q (F0 m q.1 ls' st')) : W p l e R s m args below meth c H locs 0 0 Q (F0 m pc ls st) := by
  unfold ck_g3 at h
  split at h
  · exact ck_b2_ok (op := fun x y => x + y) (fun _ _ _ _ _ => ck_add_ok) h hsat (fun x y r e k => by subst e; exact lv_iadd hexec hb hdg k) hn
  · exact ck_b2_ok (op := fun x y => x - y) (fun _ _ _ _ _ => ck_sub_ok) h hsat (fun x y r e k => by subst e; exact lv_isub hexec hb hdg k) hn
  · exact ck_b2_ok (op := fun x y => x * y) (fun _ _ _ _ _ => ck_mul_ok) h hsat (fun x y r e k => by subst e; exact lv_imul hexec hb hdg k) hn
  · exact ck_b2_ok (op := fun x y => x &&& y) (fun _ _ _ _ _ => ck_and_ok) h hsat (fun x y r e k => by subst e; exact lv_iand hexec hb hdg k) hn
  · exact ck_b2_ok (op := fun x y => x ||| y) (fun _ _ _ _ _ _ _ => ck_full_ok _) h hsat (fun x y r e k => by subst e; exact lv_ior hexec hb hdg k) hn
  · exact ck_b2_ok (op := fun x y => x ^^^ y) (fun _ _ _ _ _ _ _ => ck_full_ok _) h hsat (fun x y r e k => by subst e; exact lv_ixor hexec hb hdg k) hn
  · exact ck_b2_ok (op := fun x y => x <<< (y &&& 31)) (fun _ _ _ _ _ => ck_shl_ok) h hsat (fun x y r e k => by subst e; exact lv_ishl hexec hb hdg k) hn
  · exact ck_b2_ok (op := fun x y => x >>> (y &&& 31)) (fun _ _ _ _ _ _ _ => ck_full_ok _) h hsat (fun x y r e k => by subst e; exact lv_ishr hexec hb hdg k) hn
  · exact ck_b2_ok (op := fun x y => (x.toUInt32 >>> (y.toUInt32 &&& Int32.toUInt32 31)).toInt32) (fun _ _ _ _ _ _ _ => ck_full_ok _) h hsat (fun x y r e k => by subst e; exact lv_iushr hexec hb hdg rfl k) hn
  · split at h
    · next b _ _ hS =>
      split at h
      · next hb1 =>
        refine ck_b2_ok (op := fun x y => x - x / y * y) (fun _ _ _ _ _ => ck_rem_ok) h hsat (fun x y r e k => ?_) hn
        subst e
        refine lv_irem hexec hb hdg ?_ k
        intro hy
        obtain ⟨lv, h1, h2, h3, -⟩ := hsat
        rw [hS] at h3
        obtain ⟨⟨⟨z, ez, g1, -⟩, -⟩, -⟩ := h3
        cases ez
        have := of_decide_eq_true hb1
        rw [hy] at g1
        have e0 : (0 : Int32).toInt = 0 := rfl
        omega
      · cases h
    · cases h
  · exact ck_u1_ok (op := fun x => -x) h hsat (fun x r e k => by subst e; exact lv_ineg hexec hb hdg k) hn
  · exact ck_u1_ok (op := fun x => x.toInt8.toInt32) h hsat (fun x r e k => by subst e; exact lv_i2b hexec hb hdg rfl k) hn
  · obtain ⟨L, S, P⟩ := A
    split at h
    · next hS =>
      cases h
      dsimp only at hS
      subst hS
      obtain ⟨lv, h1, h2, h3, h4, h5, h6⟩ := hsat
      match st, h3 with
      | v :: rest, h3 =>
        obtain ⟨⟨⟨x, rfl, g2⟩, -⟩, g5⟩ := h3
        refine lv_i2l hexec hb hdg rfl ?_
        exact hn _ List.mem_cons_self _ _ _ _ _ ⟨lv, h1, h2, ⟨⟨⟨_, rfl⟩, ck_src0⟩, g5⟩, h4, h5, h6⟩
    · cases h
  · exact ck_jj_ok (av := .inl ck_full) (ty := ty) (X := X) (op := fun x y => .int (lg_cmp x y)) (fun x y => ⟨_, rfl, ck_full_ok _⟩) h hsat (fun x y r e k => by subst e; exact W.lcmp hexec hb hdg k) hn
  · exact ck_jj_ok (av := .inr (.inr ())) (ty := ty) (X := X) (op := fun x y => .long (x + y)) (fun x y => ⟨_, rfl⟩) h hsat (fun x y r e k => by subst e; exact lv_ladd hexec hb hdg k) hn
  · exact ck_jj_ok (av := .inr (.inr ())) (ty := ty) (X := X) (op := fun x y => .long (x * y)) (fun x y => ⟨_, rfl⟩) h hsat (fun x y r e k => by subst e; exact lv_lmul hexec hb hdg k) hn
  · exact ck_jj_ok (av := .inr (.inr ())) (ty := ty) (X := X) (op := fun x y => .long (x ||| y)) (fun x y => ⟨_, rfl⟩) h hsat (fun x y r e k => by subst e; exact lv_lor hexec hb hdg k) hn
  · obtain ⟨L, S, P⟩ := A
    split at h
    · next hS =>
      cases h
      dsimp only at hS
      subst hS
      obtain ⟨lv, h1, h2, h3, h4, h5, h6⟩ := hsat
      match st, h3 with
      | v :: w :: rest, h3 =>
        obtain ⟨⟨⟨x, rfl, g2⟩, -⟩, ⟨⟨y, rfl⟩, -⟩, g5⟩ := h3
        refine lv_lshl hexec hb hdg rfl ?_
        exact hn _ List.mem_cons_self _ _ _ _ _ ⟨lv, h1, h2, ⟨⟨⟨_, rfl⟩, ck_src0⟩, g5⟩, h4, h5, h6⟩
    · cases h
  · obtain ⟨L, S, P⟩ := A
    split at h
    · next hS =>
      split at h
      · next hc =>
        cases h
        dsimp only at hS
        subst hS
        obtain ⟨lv, h1, h2, h3, h4, h5, h6⟩ := hsat
        match st, h3 with
        | v :: rest, h3 =>
          refine lv_dup hexec hb hdg (by rw [ck_v_cat h3.1.1]; exact hc) ?_
          exact hn _ List.mem_cons_self _ _ _ _ _ ⟨lv, h1, h2, ⟨h3.1, h3⟩, h4, h5, h6⟩
      · cases h
    · cases h
  · obtain ⟨L, S, P⟩ := A
    split at h
    · next hS =>
      split at h
      · next hc =>
        cases h
        dsimp only at hS
        subst hS
        obtain ⟨lv, h1, h2, h3, h4, h5, h6⟩ := hsat
        match st, h3 with
        | v :: rest, h3 =>
          refine lv_pop hexec hb hdg (by rw [ck_v_cat h3.1.1]; exact hc) ?_
          exact hn _ List.mem_cons_self _ _ _ _ _ ⟨lv, h1, h2, h3.2, h4, h5, h6⟩
      · cases h
    · cases h
  · obtain ⟨L, S, P⟩ := A
    split at h
    · next hS =>
      split at h
      · next hc =>
        cases h
        dsimp only at hS
        subst hS
        obtain ⟨lv, h1, h2, h3, h4, h5, h6⟩ := hsat
        match st, h3 with
        | v :: w :: rest, h3 =>
          refine lv_dup2_11 hexec hb hdg (by rw [ck_v_cat h3.1.1]; exact hc.1) (by rw [ck_v_cat h3.2.1.1]; exact hc.2) ?_
          exact hn _ List.mem_cons_self _ _ _ _ _ ⟨lv, h1, h2, ⟨h3.1, h3.2.1, h3⟩, h4, h5, h6⟩
      · cases h
    · cases h
  · cases h
/-! branches -/
def ck_dcA (cd : Nat) (da db : ck_Ds) : ck_Ds := da.flatMap (fun d => (db.filter (fun b => b.1 == d.1)).map (fun b => (d.1, (ck_cmp cd d.2 b.2).1)))
def ck_dcB (cd : Nat) (da db : ck_Ds) : ck_Ds := da.flatMap (fun d => (db.filter (fun b => b.1 == d.1)).map (fun b => (d.1, (ck_cmp cd d.2 b.2).2)))
theorem ck_rel_sh {cd : Nat} {x y z : Int} (h : ck_rel cd x y) : ck_rel cd (x - z) (y - z) := by
  match cd, h with
  | 0, h => simp only [ck_rel] at h ⊢; omega
  | 1, h => simp only [ck_rel] at h ⊢; omega
  | 2, h => simp only [ck_rel] at h ⊢; omega
  | 3, h => simp only [ck_rel] at h ⊢; omega
  | 4, h => simp only [ck_rel] at h ⊢; omega
  | n + 5, h => simp only [ck_rel] at h ⊢; omega
theorem ck_dc_ok {X : Nat → Int} {cd : Nat} {x y : Int} {da db : ck_Ds} (h : ck_rel cd x y) (ha : ck_d X x da) (hb : ck_d X y db) : ck_d X x (ck_dcA cd da db) ∧ ck_d X y (ck_dcB cd da db) := by
  refine ⟨fun q hq => ?_, fun q hq => ?_⟩
  · obtain ⟨d, hd, h1⟩ := List.mem_flatMap.mp hq
    obtain ⟨b, hbm, rfl⟩ := List.mem_map.mp h1
    obtain ⟨hb1, hb2⟩ := List.mem_filter.mp hbm
    have e : b.1 = d.1 := by simpa using hb2
    have k1 := ha d hd
    have k2 := hb b hb1
    rw [e] at k2
    exact (ck_cmp_ok cd (ck_rel_sh (z := X d.1) h) k1.1 k1.2 k2.1 k2.2).1
  · obtain ⟨d, hd, h1⟩ := List.mem_flatMap.mp hq
    obtain ⟨b, hbm, rfl⟩ := List.mem_map.mp h1
    obtain ⟨hb1, hb2⟩ := List.mem_filter.mp hbm
    have e : b.1 = d.1 := by simpa using hb2
    have k1 := ha d hd
    have k2 := hb b hb1
    rw [e] at k2
    exact (ck_cmp_ok cd (ck_rel_sh (z := X d.1) h) k1.1 k1.2 k2.1 k2.2).2
def ck_br (cd : Nat) (a b : ck_I) (sa sb : Nat) (A : ck_AS) : List ck_AS :=
  if decide ((ck_cmp cd (a.1, a.2.1) (b.1, b.2.1)).1.1 ≤ (ck_cmp cd (a.1, a.2.1) (b.1, b.2.1)).1.2) && decide ((ck_cmp cd (a.1, a.2.1) (b.1, b.2.1)).2.1 ≤ (ck_cmp cd (a.1, a.2.1) (b.1, b.2.1)).2.2) then
    [ck_redA (ck_redA (ck_ref (ck_ref A sa (ck_cmp cd (a.1, a.2.1) (b.1, b.2.1)).1.1 (ck_cmp cd (a.1, a.2.1) (b.1, b.2.1)).1.2 (ck_dcA cd a.2.2 b.2.2)) sb (ck_cmp cd (a.1, a.2.1) (b.1, b.2.1)).2.1 (ck_cmp cd (a.1, a.2.1) (b.1, b.2.1)).2.2 (ck_dcB cd a.2.2 b.2.2)) (ck_cmp cd (a.1, a.2.1) (b.1, b.2.1)).1.1 (ck_cmp cd (a.1, a.2.1) (b.1, b.2.1)).1.2 a.2.2) (ck_cmp cd (a.1, a.2.1) (b.1, b.2.1)).2.1 (ck_cmp cd (a.1, a.2.1) (b.1, b.2.1)).2.2 b.2.2] else []
theorem ck_br_ok {cd : Nat} {a b : ck_I} {sa sb : Nat} {L : List (Nat × ck_AV)} {S : List (ck_AV × Nat)} {P : List ck_AV} {x y : Int32} {lv : List (Nat × Value)} {rest : List Value} (hr : ck_rel cd x.toInt y.toInt) (ha : ck_i X a x.toInt) (hb : ck_i X b y.toInt) (hsa : ck_src lv pvv sa (.int x)) (hsb : ck_src lv pvv sb (.int y)) (h1 : lv_has ls nL lv) (h2 : ck_L ty X L lv) (h3 : ck_st ty X lv pvv S rest) (h4 : ck_pvo ty X P pvv) (h5 : ck_Wo D cys ty tg pvT Ex pvv H) (h6 : va_S (ck_own ty) H0 H locs) :
    ∃ A' ∈ ck_br cd a b sa sb (L, S, P), ck_sat D cys ty tg pvT Ex nL H0 X A' ls rest pvv H locs := by
  have hc := ck_cmp_ok cd (a := (a.1, a.2.1)) (b := (b.1, b.2.1)) hr ha.1 ha.2.1 hb.1 hb.2.1
  obtain ⟨⟨c1, c2⟩, c3, c4⟩ := hc
  unfold ck_br
  rw [if_pos (by simp only [Bool.and_eq_true, decide_eq_true_eq]; omega)]
  obtain ⟨d1, d2⟩ := ck_dc_ok hr ha.2.2 hb.2.2
  obtain ⟨k1, k2⟩ := ck_ref_ok hsa c1 c2 d1 h2 h4
  obtain ⟨k3, k4⟩ := ck_ref_ok hsb c3 c4 d2 k1 k2
  obtain ⟨k5, k6⟩ := ck_redLP_ok (lv := lv) (pvv := pvv) (q := (_, _)) c1 c2 ha.2.2 k3 k4
  obtain ⟨k7, k8⟩ := ck_redLP_ok (lv := lv) (pvv := pvv) (q := (_, _)) c3 c4 hb.2.2 k5 k6
  exact ⟨_, List.mem_cons_self, lv, h1, k7, h3, k8, h5, h6⟩
def ck_neg (cd : Nat) : Nat := match cd with
  | 0 => 1 | 1 => 0 | 2 => 3 | 3 => 2 | 4 => 5 | _ => 4
theorem ck_neg_ok {cd : Nat} {x y : Int} (hc : cd < 6) (h : ¬ ck_rel cd x y) : ck_rel (ck_neg cd) x y := by
  match cd, hc, h with
  | 0, _, h => exact h
  | 1, _, h => simp only [ck_rel] at h; simp only [ck_neg, ck_rel]; omega
  | 2, _, h => simp only [ck_rel] at h; simp only [ck_neg, ck_rel]; omega
  | 3, _, h => simp only [ck_rel] at h; simp only [ck_neg, ck_rel]; omega
  | 4, _, h => simp only [ck_rel] at h; simp only [ck_neg, ck_rel]; omega
  | 5, _, h => simp only [ck_rel] at h; simp only [ck_neg, ck_rel]; omega
def ck_cond (cd : Nat) (off : Int) (pc : Nat) (a b : ck_I) (sa sb : Nat) (A : ck_AS) : Option (List (Nat × ck_AS)) :=
  if decide (0 ≤ (pc : Int) + off) then some ((ck_br cd a b sa sb A).map (fun A' => (((pc : Int) + off).toNat, A')) ++ (ck_br (ck_neg cd) a b sa sb A).map (fun A' => (pc + 3, A'))) else none
def ck_cn (cd : ClassFile.Cond) : Nat := match cd with
  | .eq => 0 | .ne => 1 | .lt => 2 | .ge => 3 | .gt => 4 | .le => 5
theorem ck_cond_ok {cd : Nat} {off : Int} {a b : ck_I} {sa sb : Nat} {L : List (Nat × ck_AV)} {S : List (ck_AV × Nat)} {P : List ck_AV} {x y : Int32} {lv : List (Nat × Value)} {rest : List Value} (hcd : cd < 6) (h : ck_cond cd off pc a b sa sb (L, S, P) = some out) (ha : ck_i X a x.toInt) (hb : ck_i X b y.toInt) (hsa : ck_src lv pvv sa (.int x)) (hsb : ck_src lv pvv sb (.int y)) (h1 : lv_has ls nL lv) (h2 : ck_L ty X L lv) (h3 : ck_st ty X lv pvv S rest) (h4 : ck_pvo ty X P pvv) (h5 : ck_Wo D cys ty tg pvT Ex pvv H) (h6 : va_S (ck_own ty) H0 H locs) (hn : ∀ q ∈ out, ∀ (ls' : Array Slot) (st' : List Value) (pvv' : Nat → Int32) (H' : Heap) (locs' : List Loc), ck_sat D cys ty tg pvT Ex nL H0 X q.2 ls' st' pvv' H' locs' → W p l e R s m args below meth c H' locs' 0 0 Q (F0 m q.1 ls' st'))
    (kk : ∀ tgt : Nat, (pc : Int) + off = (tgt : Int) → (ck_rel cd x.toInt y.toInt → W p l e R s m args below meth c H locs 0 0 Q (F0 m tgt ls rest)) → (¬ ck_rel cd x.toInt y.toInt → W p l e R s m args below meth c H locs 0 0 Q (F0 m (pc + 3) ls rest)) → W p l e R s m args below meth c H locs 0 0 Q (F0 m pc ls st)) : W p l e R s m args below meth c H locs 0 0 Q (F0 m pc ls st) := by
  unfold ck_cond at h
  split at h
  · next hp =>
    cases h
    have hp := of_decide_eq_true hp
    refine kk ((pc : Int) + off).toNat (by omega) (fun hr => ?_) (fun hr => ?_)
    · obtain ⟨A', m1, m2⟩ := ck_br_ok hr ha hb hsa hsb h1 h2 h3 h4 h5 h6
      exact hn _ (List.mem_append_left _ (List.mem_map_of_mem m1)) _ _ _ _ _ m2
    · obtain ⟨A', m1, m2⟩ := ck_br_ok (ck_neg_ok hcd hr) ha hb hsa hsb h1 h2 h3 h4 h5 h6
      exact hn _ (List.mem_append_right _ (List.mem_map_of_mem m1)) _ _ _ _ _ m2
  · cases h
def ck_tsw (pc : Nat) (lo : Int) (offs : Array Int) (r : ck_I) (src : Nat) (A : ck_AS) : Nat → Option (List (Nat × ck_AS))
  | 0 => some []
  | k + 1 => match ck_tsw pc lo offs r src A k with
    | none => none
    | some w => if decide (r.1 ≤ lo + k) && decide (lo + k ≤ r.2.1) then (match offs[k]? with
        | some f => if decide (0 ≤ (pc : Int) + f) then some ((((pc : Int) + f).toNat, ck_ref A src (lo + k) (lo + k) []) :: w) else none
        | none => none) else some w
theorem ck_tsw_ok {lo : Int} {offs : Array Int} {r : ck_I} {src : Nat} {x : Int} (hr1 : r.1 ≤ x) (hr2 : x ≤ r.2.1) : ∀ {n : Nat} {w : List (Nat × ck_AS)}, ck_tsw pc lo offs r src A n = some w → ∀ k : Nat, k < n → x = lo + k → ∃ f : Int, offs[k]? = some f ∧ 0 ≤ (pc : Int) + f ∧ (((pc : Int) + f).toNat, ck_ref A src (lo + k) (lo + k) []) ∈ w
  | 0, _, _, k, hk, _ => by omega
  | n + 1, w, h, k, hk, e => by
    unfold ck_tsw at h
    split at h
    · cases h
    · next w0 hw =>
      by_cases ek : k = n
      · subst ek
        rw [if_pos (by simp only [Bool.and_eq_true, decide_eq_true_eq]; omega)] at h
        split at h
        · next f hf =>
          split at h
          · next hp =>
            cases h
            exact ⟨f, hf, of_decide_eq_true hp, List.mem_cons_self⟩
          · cases h
        · cases h
      · obtain ⟨f, g1, g2, g3⟩ := ck_tsw_ok hr1 hr2 hw k (by omega) e
        refine ⟨f, g1, g2, ?_⟩
        split at h
        · split at h
          · split at h
            · cases h; exact List.mem_cons_of_mem _ g3
            · cases h
          · cases h
        · cases h; exact g3
def ck_g5 (pc : Nat) (i : Instr) (len : Nat) (A : ck_AS) : Option (List (Nat × ck_AS)) := match i, len with
  | .goto off, 3 => if decide (0 ≤ (pc : Int) + off) then some [(((pc : Int) + off).toNat, A)] else none
  | .ifCond cd off, 3 => match A.2.1 with
    | (.inl a, sa) :: S => ck_cond (ck_cn cd) off pc a (0, 0, []) sa 0 (A.1, S, A.2.2)
    | _ => none
  | .if_icmp cd off, 3 => match A.2.1 with
    | (.inl b, sb) :: (.inl a, sa) :: S => ck_cond (ck_cn cd) off pc a b sa sb (A.1, S, A.2.2)
    | _ => none
  | .tableswitch dflt lo hi offs, _ => match A.2.1 with
    | (.inl r, src) :: S => if decide (0 ≤ (pc : Int) + dflt) then (match ck_tsw pc lo offs r src (A.1, S, A.2.2) (hi - lo + 1).toNat with
        | some w => some ((if decide (r.1 < lo) || decide (hi < r.2.1) then [(((pc : Int) + dflt).toNat, (A.1, S, A.2.2))] else []) ++ w)
        | none => none) else none
    | _ => none
  | _, _ => none
theorem ck_t_lt {x y : Int32} : x < y ↔ x.toInt < y.toInt := Int32.lt_iff_toInt_lt
theorem ck_t_le {x y : Int32} : x ≤ y ↔ x.toInt ≤ y.toInt := Int32.le_iff_toInt_le
theorem ck_t_eq {x y : Int32} : x = y ↔ x.toInt = y.toInt := Int32.toInt_inj.symm
theorem ck_g5_ok (hexec : p.tables.exec = Jvm.exec) (hb : c.code = cc) (h : ck_g5 pc i len A = some out) (hdg : decode cc pc = .ok (i, len)) (hsat : ck_sat D cys ty tg pvT Ex nL H0 X A ls st pvv H locs) (hn : ∀ q ∈ out, ∀ (ls' : Array Slot) (st' : List Value) (pvv' : Nat → Int32) (H' : Heap) (locs' : List Loc), ck_sat D cys ty tg pvT Ex nL H0 X q.2 ls' st' pvv' H' locs' → W p l e R s m args below meth c H' locs' 0 0 Q (F0 m q.1 ls' st')) : W p l e R s m args below meth c H locs 0 0 Q (F0 m pc ls st) := by
  obtain ⟨L, S, P⟩ := A
  unfold ck_g5 at h
  split at h
  · next off =>
    split at h
    · next hp =>
      cases h
      have hp := of_decide_eq_true hp
      refine lv_goto hexec hb hdg (tgt := ((pc : Int) + off).toNat) (by omega) ?_
      exact hn _ List.mem_cons_self _ _ _ _ _ hsat
    · cases h
  · next cd off =>
    split at h
    · next hS =>
      dsimp only at hS
      subst hS
      obtain ⟨lv, h1, h2, h3, h4, h5, h6⟩ := hsat
      match st, h3 with
      | v :: rest, h3 =>
        obtain ⟨⟨⟨x, rfl, g2⟩, gs⟩, g5⟩ := h3
        refine ck_cond_ok (x := x) (y := 0) (by cases cd <;> decide) h g2 (ck_ci rfl) gs ck_src0 h1 h2 g5 h4 h5 h6 hn (fun tgt ht k1 k2 => ?_)
        cases cd
        · exact lv_if_eq hexec hb hdg ht (fun q => k1 (by simpa [ck_rel, ck_cn] using ck_t_eq.mp q)) (fun q => k2 (fun z => q (ck_t_eq.mpr (by simpa [ck_rel, ck_cn] using z))))
        · exact lv_if_ne hexec hb hdg ht (fun q => k1 (fun z => q (ck_t_eq.mpr (by simpa [ck_rel, ck_cn] using z)))) (fun q => k2 (fun z => z (by simpa using ck_t_eq.mp q)))
        · exact lv_if_lt hexec hb hdg ht (fun q => k1 (by simpa [ck_rel, ck_cn] using ck_t_lt.mp q)) (fun q => k2 (fun z => q (ck_t_lt.mpr (by simpa [ck_rel, ck_cn] using z))))
        · exact lv_if_ge hexec hb hdg ht (fun q => k1 (by simpa [ck_rel, ck_cn] using ck_t_le.mp q)) (fun q => k2 (fun z => q (ck_t_le.mpr (by simpa [ck_rel, ck_cn] using z))))
        · exact lv_if_gt hexec hb hdg ht (fun q => k1 (by simpa [ck_rel, ck_cn] using ck_t_lt.mp q)) (fun q => k2 (fun z => q (ck_t_lt.mpr (by simpa [ck_rel, ck_cn] using z))))
        · exact lv_if_le hexec hb hdg ht (fun q => k1 (by simpa [ck_rel, ck_cn] using ck_t_le.mp q)) (fun q => k2 (fun z => q (ck_t_le.mpr (by simpa [ck_rel, ck_cn] using z))))
    · cases h
  · next cd off =>
    split at h
    · next hS =>
      dsimp only at hS
      subst hS
      obtain ⟨lv, h1, h2, h3, h4, h5, h6⟩ := hsat
      match st, h3 with
      | v :: w :: rest, h3 =>
        obtain ⟨⟨⟨y, rfl, g2⟩, gs⟩, ⟨⟨x, rfl, g3⟩, gt⟩, g5⟩ := h3
        refine ck_cond_ok (x := x) (y := y) (by cases cd <;> decide) h g3 g2 gt gs h1 h2 g5 h4 h5 h6 hn (fun tgt ht k1 k2 => ?_)
        cases cd
        · exact lv_icmp_eq hexec hb hdg ht (fun q => k1 (by simpa [ck_rel, ck_cn] using ck_t_eq.mp q)) (fun q => k2 (fun z => q (ck_t_eq.mpr (by simpa [ck_rel, ck_cn] using z))))
        · exact lv_icmp_ne hexec hb hdg ht (fun q => k1 (fun z => q (ck_t_eq.mpr (by simpa [ck_rel, ck_cn] using z)))) (fun q => k2 (fun z => z (by simpa using ck_t_eq.mp q)))
        · exact lv_icmp_lt hexec hb hdg ht (fun q => k1 (by simpa [ck_rel, ck_cn] using ck_t_lt.mp q)) (fun q => k2 (fun z => q (ck_t_lt.mpr (by simpa [ck_rel, ck_cn] using z))))
        · exact lv_icmp_ge hexec hb hdg ht (fun q => k1 (by simpa [ck_rel, ck_cn] using ck_t_le.mp q)) (fun q => k2 (fun z => q (ck_t_le.mpr (by simpa [ck_rel, ck_cn] using z))))
        · exact lv_icmp_gt hexec hb hdg ht (fun q => k1 (by simpa [ck_rel, ck_cn] using ck_t_lt.mp q)) (fun q => k2 (fun z => q (ck_t_lt.mpr (by simpa [ck_rel, ck_cn] using z))))
        · exact lv_icmp_le hexec hb hdg ht (fun q => k1 (by simpa [ck_rel, ck_cn] using ck_t_le.mp q)) (fun q => k2 (fun z => q (ck_t_le.mpr (by simpa [ck_rel, ck_cn] using z))))
    · cases h
  · next len' dflt lo hi offs =>
    split at h
    · next r src S' hS =>
      split at h
      · next hp =>
        have hp := of_decide_eq_true hp
        split at h
        · next w hw =>
          cases h
          dsimp only at hS
          subst hS
          obtain ⟨lv, h1, h2, h3, h4, h5, h6⟩ := hsat
          match st, h3 with
          | v :: rest, h3 =>
            obtain ⟨⟨⟨x, rfl, g2⟩, gs⟩, g5⟩ := h3
            by_cases hout : x.toInt < lo ∨ hi < x.toInt
            · refine lv_tableOut hexec hb hdg hout (tgt := ((pc : Int) + dflt).toNat) (by omega) ?_
              have hc : (decide (r.1 < lo) || decide (hi < r.2.1)) = true := by
                have := g2.1
                have := g2.2.1
                simp only [Bool.or_eq_true, decide_eq_true_eq]
                omega
              rw [if_pos hc] at hn
              exact hn _ (List.mem_append_left _ List.mem_cons_self) _ _ _ _ _ ⟨lv, h1, h2, g5, h4, h5, h6⟩
            · have e1 : x.toInt = lo + ((x.toInt - lo).toNat : Int) := by omega
              obtain ⟨f, k1, k2, k3⟩ := ck_tsw_ok g2.1 g2.2.1 hw (x.toInt - lo).toNat (by omega) e1
              refine lv_tableIn hexec hb hdg (by omega) (by omega) k1 (tgt := ((pc : Int) + f).toNat) (by omega) ?_
              obtain ⟨k4, k5⟩ := ck_ref_ok gs (lo := lo + ((x.toInt - lo).toNat : Int)) (hi := lo + ((x.toInt - lo).toNat : Int)) (ds := []) (by omega) (by omega) (fun d h => nomatch h) h2 h4
              exact hn _ (List.mem_append_right _ k3) _ _ _ _ _ ⟨lv, h1, k4, g5, k5, h5, h6⟩
        · cases h
      · cases h
    · cases h
  · cases h
end CK7
end
section
/-! THE CHECKER, 7: fields and arrays. -/
def ck_idx (q : Nat × Nat) : List (Nat × Nat) → Nat → Option Nat
  | [], _ => none
  | r :: t, n => if r = q then some n else ck_idx q t (n + 1)
theorem ck_idx_some {q : Nat × Nat} : ∀ {L : List (Nat × Nat)} {n j : Nat}, ck_idx q L n = some j → ∃ i, j = n + i ∧ L[i]? = some q
  | [], _, _, h => by cases h
  | r :: t, n, j, h => by
    unfold ck_idx at h
    split at h
    · next e => cases h; exact ⟨0, rfl, by rw [e]; rfl⟩
    · obtain ⟨i, h1, h2⟩ := ck_idx_some h
      exact ⟨i + 1, by omega, h2⟩
theorem ck_idx_none {q : Nat × Nat} : ∀ {L : List (Nat × Nat)} {n : Nat}, ck_idx q L n = none → ∀ i : Nat, L[i]? ≠ some q
  | [], _, _, i => by simp
  | r :: t, n, h, i => by
    unfold ck_idx at h
    split at h
    · cases h
    · next e =>
      match i with
      | 0 => intro z; exact e (Option.some.inj z)
      | i + 1 => exact ck_idx_none h i
def ck_nod (av : ck_AV) : ck_AV := match av with
  | .inl r => .inl (r.1, r.2.1, [])
  | x => x
theorem ck_nod_ok {ty : Nat → Option Nat} {X Y : Nat → Int} {av : ck_AV} {v : Value} (h : ck_v ty X av v) : ck_v ty Y (ck_nod av) v := by
  match av, h with
  | .inl r, h =>
    obtain ⟨x, e, a1, a2, -⟩ := h
    exact ⟨x, e, a1, a2, fun d h => nomatch h⟩
  | .inr (.inl t), h => exact h
  | .inr (.inr u), h => exact h
def ck_fre (pr : List (Nat × Nat)) (a b : Nat) : Bool := pr.all (fun q => decide (b < q.1) || decide (q.2 < a))
theorem ck_fre_ok {pr : List (Nat × Nat)} {a b j : Nat} (h : ck_fre pr a b = true) (h1 : a ≤ j) (h2 : j ≤ b) : ¬ ck_pr pr j := by
  rintro ⟨q, hq, g1, g2⟩
  have := List.all_eq_true.mp h q hq
  simp only [Bool.or_eq_true, decide_eq_true_eq] at this
  omega
def ck_LKf (LK : Nat → Nat → Option ck_En) : Prop := ∀ (o ix ci k cd : Nat), LK o ix = some (.inl (ci, k, cd)) → ∃ r : vw_C, ck_cl[ci]? = some r ∧ k < r.2.2 ∧ Jvm.Cond.fieldLink (ck_R o) ix (r.2.1 k).1 (r.2.1 k).2.1 (r.2.1 k).2.2.1 ∈ wsL_law0 ∧ (cd = 0 → (r.2.1 k).2.2.2 = false ∧ parseFieldDescriptor (r.2.1 k).2.2.1 = some .int) ∧ (cd = 1 → (r.2.1 k).2.2.2 = false ∧ parseFieldDescriptor (r.2.1 k).2.2.1 = some .boolean) ∧ (cd = 2 → (r.2.1 k).2.2.2 = false ∧ parseFieldDescriptor (r.2.1 k).2.2.1 = some .long)
theorem ck_nbool {x : Int32} (h : 0 ≤ x.toInt ∧ x.toInt ≤ 1) : narrow .boolean (.int x) = .int x ∧ fits .boolean (.int x) = true := by
  have : x = 0 ∨ x = 1 := by
    rcases (show x.toInt = 0 ∨ x.toInt = 1 by omega) with h | h
    · exact Or.inl (Int32.toInt_inj.mp h)
    · exact Or.inr (Int32.toInt_inj.mp h)
  rcases this with rfl | rfl <;> decide
/-- no followed place of this sort; none in a range -/
def ck_nfa (pvT : List (Nat × Nat)) (t : Nat) : Bool := pvT.all (fun q => decide (q.1 ≠ t))
theorem ck_nfa_ok {pvT : List (Nat × Nat)} {t : Nat} (h : ck_nfa pvT t = true) : ck_nf pvT t := by
  intro j k hj
  have := List.all_eq_true.mp h _ (List.mem_of_getElem? hj)
  simp at this
def ck_nfr (pvT : List (Nat × Nat)) (t a b : Nat) : Bool := pvT.all (fun q => decide (q.1 ≠ t) || decide (q.2 < a) || decide (b < q.2))
theorem ck_nfr_ok {pvT : List (Nat × Nat)} {t a b k : Nat} (h : ck_nfr pvT t a b = true) (h1 : a ≤ k) (h2 : k ≤ b) (j : Nat) : pvT[j]? ≠ some (t, k) := by
  intro hj
  have := List.all_eq_true.mp h _ (List.mem_of_getElem? hj)
  simp only [Bool.or_eq_true, decide_eq_true_eq] at this
  omega
section CK8
variable {p : Program} {l : Launch} {e : Env} {R : Room} {s : State} {m : MethodId} {args : Array Value} {below : List Frame} {meth : Method} {c : Code} {H H0 : Heap} {locs : List Loc} {Q : State → Prop} {cc : ByteArray} {pc len : Nat} {ls : Array Slot} {st : List Value}
variable {D : va_G} {cys : Nat → ClassId} {ty : Nat → Option Nat} {tg : List ck_TD} {pvT : List (Nat × Nat)} {prot : Nat → List (Nat × Nat)} {Ex : va_W → Prop} {pvv : Nat → Int32} {Ts : List Jvm.Cond} {LK : Nat → Nat → Option ck_En} {o nL : Nat} {X : Nat → Int} {A : ck_AS} {out : List (Nat × ck_AS)} {i : Instr}
/-- may this be written into such a field -/
def ck_wr (cd : Nat) (av ft : ck_AV) : Bool := ck_le (ck_nod av) ft && (match cd, ft with
  | 0, .inl _ => true
  | 1, .inl r => decide (0 ≤ r.1) && decide (r.2.1 ≤ 1)
  | 2, .inr (.inr _) => true
  | _, _ => false)
def ck_g6 (tg : List ck_TD) (pvT : List (Nat × Nat)) (prot : Nat → List (Nat × Nat)) (LK : Nat → Nat → Option ck_En) (o pc : Nat) (i : Instr) (len : Nat) (A : ck_AS) : Option (List (Nat × ck_AS)) := match i, len with
  | .getfield ix, 3 => match A.2.1 with
    | (.inr (.inl t), _) :: S => match LK o ix, tg[t]? with
      | some (.inl (ci, k, _)), some (.inl (ci', fts)) => if ci = ci' then (match fts[k]?, ck_idx (t, k) pvT 0 with
          | some ft, none => some [(pc + 3, (A.1, (ck_nod ft, 0) :: S, A.2.2))]
          | some _, some j => (match A.2.2[j]? with
              | some av => some [(pc + 3, (A.1, (av, 1000 + j) :: S, A.2.2))]
              | none => none)
          | _, _ => none) else none
      | _, _ => none
    | _ => none
  | .putfield ix, 3 => match A.2.1 with
    | (av, _) :: (.inr (.inl t), _) :: S => match LK o ix, tg[t]? with
      | some (.inl (ci, k, cd)), some (.inl (ci', fts)) => if ci = ci' ∧ ck_fre (prot t) k k = true then (match fts[k]? with
          | some ft => if ck_wr cd av ft then (match ck_idx (t, k) pvT 0 with
              | none => some [(pc + 3, (A.1, S, A.2.2))]
              | some j => if decide (cd < 2) && decide (j < A.2.2.length) then some [(pc + 3, (A.1, ck_clr (fun z => z == 1000 + j) S, A.2.2.set j av))] else none) else none
          | none => none) else none
      | _, _ => none
    | _ => none
  | .arraylength, 1 => match A.2.1 with
    | (.inr (.inl t), _) :: S => match tg[t]? with
      | some (.inr (_, n, _, _)) => if n < 2 ^ 31 then some [(pc + 1, (A.1, (.inl ((n : Int), (n : Int), []), 0) :: S, A.2.2))] else none
      | _ => none
    | _ => none
  | .iaload, 1 => match A.2.1 with
    | (.inl x, _) :: (.inr (.inl t), _) :: S => match tg[t]? with
      | some (.inr (0, n, sg, _)) => if decide (0 ≤ x.1) && decide (x.2.1 < n) then (match (if x.1 = x.2.1 then ck_idx (t, x.1.toNat) pvT 0 else none) with
          | some j => (match A.2.2[j]? with
              | some av => some [(pc + 1, (A.1, (av, 1000 + j) :: S, A.2.2))]
              | none => none)
          | none => some [(pc + 1, (A.1, (.inl ((ck_sj sg x.1.toNat x.2.1.toNat).1, (ck_sj sg x.1.toNat x.2.1.toNat).2, []), 0) :: S, A.2.2))]) else none
      | _ => none
    | _ => none
  | .baload, 1 => match A.2.1 with
    | (.inl x, _) :: (.inr (.inl t), _) :: S => match tg[t]? with
      | some (.inr (kd, n, sg, _)) => if decide (kd = 1 ∨ kd = 2) && decide (0 ≤ x.1) && decide (x.2.1 < n) then some [(pc + 1, (A.1, (.inl ((ck_sj sg x.1.toNat x.2.1.toNat).1, (ck_sj sg x.1.toNat x.2.1.toNat).2, []), 0) :: S, A.2.2))] else none
      | _ => none
    | _ => none
  | .laload, 1 => match A.2.1 with
    | (.inl x, _) :: (.inr (.inl t), _) :: S => match tg[t]? with
      | some (.inr (3, n, _, _)) => if decide (0 ≤ x.1) && decide (x.2.1 < n) then some [(pc + 1, (A.1, (.inr (.inr ()), 0) :: S, A.2.2))] else none
      | _ => none
    | _ => none
  | .aaload, 1 => match A.2.1 with
    | (.inl x, _) :: (.inr (.inl t), _) :: S => match tg[t]? with
      | some (.inr (kd, n, _, et)) => if decide (kd = 4 ∨ kd = 5) && decide (0 ≤ x.1) && decide (x.2.1 < n) then some [(pc + 1, (A.1, (.inr (.inl et), 0) :: S, A.2.2))] else none
      | _ => none
    | _ => none
  | .iastore, 1 => match A.2.1 with
    | (.inl v, _) :: (.inl x, _) :: (.inr (.inl t), _) :: S => match tg[t]? with
      | some (.inr (0, n, sg, _)) => if decide (0 ≤ x.1) && decide (x.2.1 < n) && decide ((ck_sm sg x.1.toNat x.2.1.toNat).1 ≤ v.1) && decide (v.2.1 ≤ (ck_sm sg x.1.toNat x.2.1.toNat).2) && ck_fre (prot t) x.1.toNat x.2.1.toNat then (if ck_nfr pvT t x.1.toNat x.2.1.toNat then some [(pc + 1, (A.1, S, A.2.2))] else (match (if x.1 = x.2.1 then ck_idx (t, x.1.toNat) pvT 0 else none) with
          | some j => if j < A.2.2.length then some [(pc + 1, (A.1, ck_clr (fun z => z == 1000 + j) S, A.2.2.set j (.inl v)))] else none
          | none => none)) else none
      | _ => none
    | _ => none
  | .bastore, 1 => match A.2.1 with
    | (.inl v, _) :: (.inl x, _) :: (.inr (.inl t), _) :: S => match tg[t]? with
      | some (.inr (1, n, [], _)) => if decide (0 ≤ x.1) && decide (x.2.1 < n) && ck_fre (prot t) x.1.toNat x.2.1.toNat && ck_nfa pvT t then some [(pc + 1, (A.1, S, A.2.2))] else none
      | some (.inr (2, n, sg, _)) => if decide (0 ≤ x.1) && decide (x.2.1 < n) && decide (0 ≤ v.1) && decide (v.2.1 ≤ 1) && decide ((ck_sm sg x.1.toNat x.2.1.toNat).1 ≤ v.1) && decide (v.2.1 ≤ (ck_sm sg x.1.toNat x.2.1.toNat).2) && ck_fre (prot t) x.1.toNat x.2.1.toNat && ck_nfa pvT t then some [(pc + 1, (A.1, S, A.2.2))] else none
      | _ => none
    | _ => none
  | .lastore, 1 => match A.2.1 with
    | (.inr (.inr _), _) :: (.inl x, _) :: (.inr (.inl t), _) :: S => match tg[t]? with
      | some (.inr (3, n, _, _)) => if decide (0 ≤ x.1) && decide (x.2.1 < n) && (prot t).isEmpty && ck_nfa pvT t then some [(pc + 1, (A.1, S, A.2.2))] else none
      | _ => none
    | _ => none
  | _, _ => none
theorem ck_in_sj {sg : List (Nat × Int × Int)} {x : ck_I} {i y : Int32} (hi : ck_i X x i.toInt) (h0 : 0 ≤ x.1) (h : ck_in sg i.toInt.toNat y) : ck_i X ((ck_sj sg x.1.toNat x.2.1.toNat).1, (ck_sj sg x.1.toNat x.2.1.toNat).2, []) y.toInt := by
  have h1 := hi.1
  have h2 := hi.2.1
  have h3 := ck_sj_ok (a := x.1.toNat) (b := x.2.1.toNat) (j := i.toInt.toNat) (by omega) (by omega) sg
  obtain ⟨g1, g2⟩ := h
  exact ⟨by dsimp only; omega, by dsimp only; omega, fun d h => nomatch h⟩
theorem ck_in_sm {sg : List (Nat × Int × Int)} {x v : ck_I} {i y : Int32} (hi : ck_i X x i.toInt) (hv : ck_i X v y.toInt) (h0 : 0 ≤ x.1) (h1 : (ck_sm sg x.1.toNat x.2.1.toNat).1 ≤ v.1) (h2 : v.2.1 ≤ (ck_sm sg x.1.toNat x.2.1.toNat).2) : ck_in sg i.toInt.toNat y := by
  have g1 := hi.1
  have g2 := hi.2.1
  have g3 := ck_sm_ok (a := x.1.toNat) (b := x.2.1.toNat) (j := i.toInt.toNat) (by omega) (by omega) sg
  have g4 := hv.1
  have g5 := hv.2.1
  exact ⟨by omega, by omega⟩
theorem ck_g6_ok (hLK : ck_LKf LK) (hexec : p.tables.exec = Jvm.exec) (hb : c.code = cc) (hts : ∀ w ∈ Ts, w.before args s = true) (hin : ∀ w ∈ wsL_law0, w ∈ Ts) (hown : s.vm.findClass (ck_R o) = some m.cls) (hK : va_K D ck_cl (ck_tys cys) s) (hX : ck_ExP ty prot Ex) (hU : ck_uq ty pvT) (hN : ∀ (i j : Nat) (q : Nat × Nat), pvT[i]? = some q → pvT[j]? = some q → i = j) (h : ck_g6 tg pvT prot LK o pc i len A = some out) (hdg : decode cc pc = .ok (i, len)) (hsat : ck_sat D cys ty tg pvT Ex nL H0 X A ls st pvv H locs) (hn : ∀ q ∈ out, ∀ (ls' : Array Slot) (st' : List Value) (pvv' : Nat → Int32) (H' : Heap) (locs' : List Loc), ck_sat D cys ty tg pvT Ex nL H0 X q.2 ls' st' pvv' H' locs' → W p l e R s m args below meth c H' locs' 0 0 Q (F0 m q.1 ls' st')) : W p l e R s m args below meth c H locs 0 0 Q (F0 m pc ls st) := by
  obtain ⟨L, S, P⟩ := A
  obtain ⟨lv, h1, h2, h3, h4, h5, h6⟩ := hsat
  unfold ck_g6 at h
  split at h
  · -- getfield
    split at h
    · next t _ S' hS =>
      split at h
      · next ci k cd ci' fts hl ht =>
        split at h
        · next hci =>
          subst hci
          dsimp only at hS
          subst hS
          obtain ⟨r, q1, q2, q3, -⟩ := hLK _ _ _ _ _ hl
          match st, h3 with
          | v :: rest, h3 =>
            obtain ⟨⟨⟨a, rfl, ha⟩, -⟩, g5⟩ := h3
            split at h
            · next ft hft hno =>
              cases h
              refine ck_get hexec hb hts hin hown hK h5 ha ht q1 q2 q3 hft hdg (fun v hv _ => ?_)
              exact hn _ List.mem_cons_self _ _ _ _ _ ⟨lv, h1, h2, ⟨⟨ck_nod_ok hv, ck_src0⟩, g5⟩, h4, h5, h6⟩
            · next ft j hft hj =>
              split at h
              · next av hav =>
                cases h
                obtain ⟨i0, e0, hj⟩ := ck_idx_some hj
                have e0 : j = i0 := by omega
                subst e0
                refine ck_get hexec hb hts hin hown hK h5 ha ht q1 q2 q3 hft hdg (fun v hv hp => ?_)
                rw [hp j hj]
                exact hn _ List.mem_cons_self _ _ _ _ _ ⟨lv, h1, h2, ⟨⟨h4 j av hav, ⟨fun h9 => by omega, fun _ => by rw [Nat.add_sub_cancel_left]⟩⟩, g5⟩, h4, h5, h6⟩
              · cases h
            · cases h
        · cases h
      · cases h
    · cases h
  · -- putfield
    split at h
    · next av _ t _ S' hS =>
      split at h
      · next ci k cd ci' fts hl ht =>
        split at h
        · next hci =>
          obtain ⟨hci, hfr⟩ := hci
          subst hci
          dsimp only at hS
          subst hS
          obtain ⟨r, q1, q2, q3, q4, q5, q6⟩ := hLK _ _ _ _ _ hl
          match st, h3 with
          | v :: w :: rest, h3 =>
            obtain ⟨⟨hv, -⟩, ⟨⟨a, rfl, ha⟩, -⟩, g5⟩ := h3
            split at h
            · next ft hft =>
              split at h
              · next hwr =>
                simp only [ck_wr, Bool.and_eq_true] at hwr
                obtain ⟨w1, w2⟩ := hwr
                have hv0 : ck_v ty (fun _ => 0) ft v := ck_le_ok w1 (ck_nod_ok hv)
                have key : ck_v ty (fun _ => 0) ft v → ∃ fty : FieldType, (r.2.1 k).2.2.2 = false ∧ parseFieldDescriptor (r.2.1 k).2.2.1 = some fty ∧ narrow fty v = v ∧ fits fty v = true := by
                  intro hv1
                  split at w2
                  · obtain ⟨x, rfl, -⟩ := hv1
                    exact ⟨.int, (q4 rfl).1, (q4 rfl).2, rfl, rfl⟩
                  · obtain ⟨x, rfl, b1, b2, -⟩ := hv1
                    simp only [Bool.and_eq_true, decide_eq_true_eq] at w2
                    have := ck_nbool (x := x) ⟨by omega, by omega⟩
                    exact ⟨.boolean, (q5 rfl).1, (q5 rfl).2, this.1, this.2⟩
                  · obtain ⟨x, rfl⟩ := hv1
                    exact ⟨.long, (q6 rfl).1, (q6 rfl).2, rfl, rfl⟩
                  · cases w2
                obtain ⟨fty, f1, f2, f3, f4⟩ := key hv0
                have hnp : ¬ ck_pr (prot t) k := ck_fre_ok hfr (Nat.le_refl _) (Nat.le_refl _)
                split at h
                · next hno =>
                  cases h
                  have hno := ck_idx_none hno
                  refine ck_put hexec hb hts hin hown hK hX hU h5 h6 ha ht q1 q2 q3 f1 hft hv0 hnp f2 f3 f4 (fun ⟨j, hj⟩ => absurd hj (hno j)) hdg (fun H1 locs1 pvv' e1 e2 e3 e4 => ?_)
                  have e5 : pvv' = pvv := funext (fun j => e4 j (hno j))
                  subst e5
                  exact hn _ List.mem_cons_self _ _ _ _ _ ⟨lv, h1, h2, g5, h4, e1, e2⟩
                · next j hj =>
                  split at h
                  · next hcd =>
                    cases h
                    simp only [Bool.and_eq_true, decide_eq_true_eq] at hcd
                    obtain ⟨i0, e0, hj⟩ := ck_idx_some hj
                    have e0 : j = i0 := by omega
                    subst e0
                    have hint : ∃ x, v = .int x := by
                      split at w2
                      · obtain ⟨x, rfl, -⟩ := hv0; exact ⟨x, rfl⟩
                      · obtain ⟨x, rfl, -⟩ := hv0; exact ⟨x, rfl⟩
                      · omega
                      · cases w2
                    refine ck_put hexec hb hts hin hown hK hX hU h5 h6 ha ht q1 q2 q3 f1 hft hv0 hnp f2 f3 f4 (fun _ => hint) hdg (fun H1 locs1 pvv' e1 e2 e3 e4 => ?_)
                    have e5 : ∀ j' : Nat, j' ≠ j → pvv' j' = pvv j' := fun j' hne => e4 j' (fun z => hne (hN j' j _ z hj))
                    have e6 := e3 j hj
                    subst e6
                    refine hn _ List.mem_cons_self _ _ _ _ _ ⟨lv, h1, h2, ck_clr_ok (f := fun z => z == 1000 + j) (lv := lv) (pvv := pvv) (fun src w hf hs => ⟨hs.1, fun h9 => ?_⟩) g5, fun j' av' hj' => ?_, e1, e2⟩
                    · simp only [beq_eq_false_iff_ne] at hf
                      rw [hs.2 h9, e5 (src - 1000) (by omega)]
                    · by_cases ej : j = j'
                      · subst ej
                        dsimp only at hj'
                        rw [List.getElem?_set_self hcd.2] at hj'
                        cases hj'
                        exact hv
                      · dsimp only at hj'
                        rw [List.getElem?_set_ne ej] at hj'
                        rw [e5 j' (fun z => ej z.symm)]
                        exact h4 j' av' hj'
                  · cases h
              · cases h
            · cases h
        · cases h
      · cases h
    · cases h
  · -- arraylength
    split at h
    · next t _ S' hS =>
      split at h
      · next kd n sg et ht =>
        split at h
        · next hlt =>
          cases h
          dsimp only at hS
          subst hS
          match st, h3 with
          | v :: rest, h3 =>
            obtain ⟨⟨⟨a, rfl, ha⟩, -⟩, g5⟩ := h3
            refine ck_alen hexec hb hK h5 ha ht hlt hdg (fun x hx => ?_)
            exact hn _ List.mem_cons_self _ _ _ _ _ ⟨lv, h1, h2, ⟨⟨⟨x, rfl, ck_ci hx⟩, ck_src0⟩, g5⟩, h4, h5, h6⟩
        · cases h
      · cases h
    · cases h
  · -- iaload
    split at h
    · next x _ t _ S' hS =>
      split at h
      · next n sg et ht =>
        split at h
        · next hc =>
          simp only [Bool.and_eq_true, decide_eq_true_eq] at hc
          dsimp only at hS
          subst hS
          match st, h3 with
          | v :: w :: rest, h3 =>
            obtain ⟨⟨⟨i, rfl, gi⟩, -⟩, ⟨⟨a, rfl, ha⟩, -⟩, g5⟩ := h3
            have b1 := gi.1
            have b2 := gi.2.1
            split at h
            · next j hj =>
              split at h
              · next av hav =>
                cases h
                split at hj
                · next e0 =>
                  obtain ⟨i0, e1, hj⟩ := ck_idx_some hj
                  have e1 : j = i0 := by omega
                  subst e1
                  have e2 : i.toInt.toNat = x.1.toNat := by omega
                  refine ck_iald hexec hb hK h5 ha ht (by omega) (by omega) hdg (fun y hy hp => ?_)
                  rw [hp j (by rw [e2]; exact hj)]
                  exact hn _ List.mem_cons_self _ _ _ _ _ ⟨lv, h1, h2, ⟨⟨h4 j av hav, ⟨fun h9 => by omega, fun _ => by rw [Nat.add_sub_cancel_left]⟩⟩, g5⟩, h4, h5, h6⟩
                · cases hj
              · cases h
            · cases h
              refine ck_iald hexec hb hK h5 ha ht (by omega) (by omega) hdg (fun y hy _ => ?_)
              exact hn _ List.mem_cons_self _ _ _ _ _ ⟨lv, h1, h2, ⟨⟨⟨y, rfl, ck_in_sj gi hc.1 hy⟩, ck_src0⟩, g5⟩, h4, h5, h6⟩
        · cases h
      · cases h
    · cases h
  · -- baload
    split at h
    · next x _ t _ S' hS =>
      split at h
      · next kd n sg et ht =>
        split at h
        · next hc =>
          cases h
          simp only [Bool.and_eq_true, decide_eq_true_eq] at hc
          dsimp only at hS
          subst hS
          match st, h3 with
          | v :: w :: rest, h3 =>
            obtain ⟨⟨⟨i, rfl, gi⟩, -⟩, ⟨⟨a, rfl, ha⟩, -⟩, g5⟩ := h3
            have b1 := gi.1
            have b2 := gi.2.1
            refine ck_bald hexec hb hK h5 ha ht hc.1.1 (by omega) (by omega) hdg (fun y hy => ?_)
            exact hn _ List.mem_cons_self _ _ _ _ _ ⟨lv, h1, h2, ⟨⟨⟨y, rfl, ck_in_sj gi hc.1.2 hy⟩, ck_src0⟩, g5⟩, h4, h5, h6⟩
        · cases h
      · cases h
    · cases h
  · -- laload
    split at h
    · next x _ t _ S' hS =>
      split at h
      · next n sg et ht =>
        split at h
        · next hc =>
          cases h
          simp only [Bool.and_eq_true, decide_eq_true_eq] at hc
          dsimp only at hS
          subst hS
          match st, h3 with
          | v :: w :: rest, h3 =>
            obtain ⟨⟨⟨i, rfl, gi⟩, -⟩, ⟨⟨a, rfl, ha⟩, -⟩, g5⟩ := h3
            have b1 := gi.1
            have b2 := gi.2.1
            refine ck_lald hexec hb hK h5 ha ht (by omega) (by omega) hdg (fun y => ?_)
            exact hn _ List.mem_cons_self _ _ _ _ _ ⟨lv, h1, h2, ⟨⟨⟨y, rfl⟩, ck_src0⟩, g5⟩, h4, h5, h6⟩
        · cases h
      · cases h
    · cases h
  · -- aaload
    split at h
    · next x _ t _ S' hS =>
      split at h
      · next kd n sg et ht =>
        split at h
        · next hc =>
          cases h
          simp only [Bool.and_eq_true, decide_eq_true_eq] at hc
          dsimp only at hS
          subst hS
          match st, h3 with
          | v :: w :: rest, h3 =>
            obtain ⟨⟨⟨i, rfl, gi⟩, -⟩, ⟨⟨a, rfl, ha⟩, -⟩, g5⟩ := h3
            have b1 := gi.1
            have b2 := gi.2.1
            refine ck_aald hexec hb hK h5 ha ht hc.1.1 (by omega) (by omega) hdg (fun y hy => ?_)
            exact hn _ List.mem_cons_self _ _ _ _ _ ⟨lv, h1, h2, ⟨⟨⟨y, rfl, hy⟩, ck_src0⟩, g5⟩, h4, h5, h6⟩
        · cases h
      · cases h
    · cases h
  · -- iastore
    split at h
    · next v0 _ x _ t _ S' hS =>
      split at h
      · next n sg et ht =>
        split at h
        · next hc =>
          simp only [Bool.and_eq_true, decide_eq_true_eq] at hc
          dsimp only at hS
          subst hS
          match st, h3 with
          | v :: w :: z :: rest, h3 =>
            obtain ⟨⟨⟨y, rfl, gy⟩, -⟩, ⟨⟨i, rfl, gi⟩, -⟩, ⟨⟨a, rfl, ha⟩, -⟩, g5⟩ := h3
            have b1 := gi.1
            have b2 := gi.2.1
            refine ck_iast hexec hb hK hX hU h5 h6 ha ht (by omega) (by omega) (ck_in_sm gi gy hc.1.1.1.1 hc.1.1.2 hc.1.2) (ck_fre_ok hc.2 (by omega) (by omega)) hdg (fun H1 locs1 pvv' e1 e2 e3 e4 => ?_)
            split at h
            · next hfr =>
              cases h
              have e5 : pvv' = pvv := funext (fun j => e4 j (ck_nfr_ok hfr (by omega) (by omega) j))
              subst e5
              exact hn _ List.mem_cons_self _ _ _ _ _ ⟨lv, h1, h2, g5, h4, e1, e2⟩
            · split at h
              · next j hj =>
                split at h
                · next hlt =>
                  cases h
                  split at hj
                  · next e0 =>
                    obtain ⟨i0, f1, hj⟩ := ck_idx_some hj
                    have f1 : j = i0 := by omega
                    subst f1
                    have f2 : i.toInt.toNat = x.1.toNat := by omega
                    rw [f2] at e3 e4
                    have e5 : ∀ j' : Nat, j' ≠ j → pvv' j' = pvv j' := fun j' hne => e4 j' (fun z => hne (hN j' j _ z hj))
                    have e6 := e3 j hj
                    refine hn _ List.mem_cons_self _ _ _ _ _ ⟨lv, h1, h2, ck_clr_ok (f := fun z => z == 1000 + j) (lv := lv) (pvv := pvv) (fun src w hf hs => ⟨hs.1, fun h9 => ?_⟩) g5, fun j' av' hj' => ?_, e1, e2⟩
                    · simp only [beq_eq_false_iff_ne] at hf
                      rw [hs.2 h9, e5 (src - 1000) (by omega)]
                    · by_cases ej : j = j'
                      · subst ej
                        dsimp only at hj'
                        rw [List.getElem?_set_self hlt] at hj'
                        cases hj'
                        rw [e6]
                        exact ⟨y, rfl, gy⟩
                      · dsimp only at hj'
                        rw [List.getElem?_set_ne ej] at hj'
                        rw [e5 j' (fun z => ej z.symm)]
                        exact h4 j' av' hj'
                  · cases hj
                · cases h
              · cases h
        · cases h
      · cases h
    · cases h
  · -- bastore
    split at h
    · next v0 _ x _ t _ S' hS =>
      split at h
      · next n et ht =>
        split at h
        · next hc =>
          cases h
          simp only [Bool.and_eq_true, decide_eq_true_eq] at hc
          dsimp only at hS
          subst hS
          match st, h3 with
          | v :: w :: z :: rest, h3 =>
            obtain ⟨⟨⟨y, rfl, gy⟩, -⟩, ⟨⟨i, rfl, gi⟩, -⟩, ⟨⟨a, rfl, ha⟩, -⟩, g5⟩ := h3
            have b1 := gi.1
            have b2 := gi.2.1
            refine ck_bast hexec hb hK hX hU h5 h6 (ck_nfa_ok hc.2) ha ht (by omega) (by omega) (ck_fre_ok hc.1.2 (by omega) (by omega)) hdg (fun H1 locs1 e1 e2 => ?_)
            exact hn _ List.mem_cons_self _ _ _ _ _ ⟨lv, h1, h2, g5, h4, e1, e2⟩
        · cases h
      · next n sg et ht =>
        split at h
        · next hc =>
          cases h
          simp only [Bool.and_eq_true, decide_eq_true_eq] at hc
          dsimp only at hS
          subst hS
          match st, h3 with
          | v :: w :: z :: rest, h3 =>
            obtain ⟨⟨⟨y, rfl, gy⟩, -⟩, ⟨⟨i, rfl, gi⟩, -⟩, ⟨⟨a, rfl, ha⟩, -⟩, g5⟩ := h3
            have b1 := gi.1
            have b2 := gi.2.1
            have b3 := gy.1
            have b4 := gy.2.1
            refine ck_zast hexec hb hK hX hU h5 h6 (ck_nfa_ok hc.2) ha ht (by omega) (by omega) (ck_in_sm gi gy hc.1.1.1.1.1.1.1 hc.1.1.1.2 hc.1.1.2) ⟨by omega, by omega⟩ (ck_fre_ok hc.1.2 (by omega) (by omega)) hdg (fun H1 locs1 e1 e2 => ?_)
            exact hn _ List.mem_cons_self _ _ _ _ _ ⟨lv, h1, h2, g5, h4, e1, e2⟩
        · cases h
      · cases h
    · cases h
  · -- lastore
    split at h
    · next _ _ x _ t _ S' hS =>
      split at h
      · next n sg et ht =>
        split at h
        · next hc =>
          cases h
          simp only [Bool.and_eq_true, decide_eq_true_eq, List.isEmpty_iff] at hc
          dsimp only at hS
          subst hS
          match st, h3 with
          | v :: w :: z :: rest, h3 =>
            obtain ⟨⟨⟨y, rfl⟩, -⟩, ⟨⟨i, rfl, gi⟩, -⟩, ⟨⟨a, rfl, ha⟩, -⟩, g5⟩ := h3
            have b1 := gi.1
            have b2 := gi.2.1
            refine ck_last hexec hb hK hX h5 h6 (ck_nfa_ok hc.2) ha ht (by omega) (by omega) hc.1.2 hdg (fun H1 locs1 e1 e2 => ?_)
            exact hn _ List.mem_cons_self _ _ _ _ _ ⟨lv, h1, h2, g5, h4, e1, e2⟩
        · cases h
      · cases h
    · cases h
  · cases h
end CK8
end
section
/-! THE CHECKER, 8: calls. -/
theorem ck_good : ∀ w ∈ wsL_law0, (w.onTables && w.keeps) = true ∨ ∃ ty, w = .arrayClass ty := by
  have h : wsL_law0.all goodWord = true := by decide +kernel
  exact fun w hw => good_of_word (List.all_eq_true.mp h w hw)
theorem ck_nest_warm {s U : State} (hW : s.WarmedH U.vm) (h : ∀ w ∈ ck_nest, va_Nw w s) : ∀ w ∈ ck_nest, va_Nw w U := by
  intro w hw
  have h1 := h w hw
  simp only [ck_nest, List.mem_cons, List.not_mem_nil, or_false] at hw
  rcases hw with rfl | rfl | rfl | rfl | rfl | rfl <;> exact va_Nw.warmM hW h1
theorem ck_nest_tab : ∀ w ∈ ck_nest, w.onTables = true := by
  intro w hw
  simp only [ck_nest, List.mem_cons, List.not_mem_nil, or_false] at hw
  rcases hw with rfl | rfl | rfl | rfl | rfl | rfl <;> rfl
def ck_mOK (tg : List ck_TD) (o ix kd : Nat) (k : ck_K) : Prop := Jvm.Cond.code (k_y k) (k_cc k) (k_ml k) (k_rt k) ∈ wsL_law0 ∧ Jvm.Cond.initialized (k_y k).cls ∈ wsL_law0 ∧ ((k_y k).cls ≠ "java/lang/invoke/MethodHandle" ∧ (k_y k).cls ≠ "java/lang/invoke/VarHandle") ∧
  (kd = 0 → Jvm.Cond.methodLink (ck_R o) ix (k_y k) ∈ wsL_law0 ∧ Jvm.Cond.instanceMethod (k_y k) ∈ wsL_law0 ∧ Jvm.Cond.selects (k_y k).cls (k_y k) (k_y k) ∈ wsL_law0 ∧ ∃ (t ci : Nat) (fts : List ck_AV) (r : vw_C) (pa : List ck_AV), k_pa k = .inr (.inl t) :: pa ∧ tg[t]? = some (.inl (ci, fts)) ∧ ck_cl[ci]? = some r ∧ r.1 = (k_y k).cls ∧ (parseMethodDescriptor (k_y k).desc).map (fun d => d.parameters.length) = some pa.length) ∧
  (kd = 1 → Jvm.Cond.methodLink (ck_R o) ix (k_y k) ∈ wsL_law0 ∧ Jvm.Cond.static (k_y k) ∈ wsL_law0 ∧ (parseMethodDescriptor (k_y k).desc).map (fun d => d.parameters.length) = some (k_pa k).length) ∧
  (kd = 2 → Jvm.Cond.methodLinkNest (ck_R o) ix (k_y k) RX11 ∈ ck_nest ∧ Jvm.Cond.static (k_y k) ∈ wsL_law0 ∧ (parseMethodDescriptor (k_y k).desc).map (fun d => d.parameters.length) = some (k_pa k).length)
def ck_LKm (tg : List ck_TD) (LK : Nat → Nat → Option ck_En) (tab : Nat → ck_K) : Prop := (∀ (o ix kd : Nat) (js : List Nat), LK o ix = some (.inr (.inr (.inr (.inl (kd, js))))) → ∀ j ∈ js, ck_mOK tg o ix kd (tab j)) ∧ (∀ (o ix : Nat) (u : Unit), LK o ix = some (.inr (.inr (.inr (.inr u)))) → Jvm.Cond.methodLink (ck_R o) ix arraycopyName ∈ wsL_law0)
def ck_popA : List (ck_AV × Nat) → List ck_AV → Option (List (ck_AV × Nat))
  | S, [] => some S
  | q :: S, av :: ps => if ck_le (ck_nod q.1) av then ck_popA S ps else none
  | [], _ :: _ => none
theorem ck_args_app {ty : Nat → Option Nat} {c : List ck_AV} {d : List Value} (h2 : ck_args ty c d) : ∀ {a : List ck_AV} {b : List Value}, ck_args ty a b → ck_args ty (a ++ c) (b ++ d)
  | [], [], _ => h2
  | _ :: _, _ :: _, h => ⟨h.1, ck_args_app h2 h.2⟩
theorem ck_args_len {ty : Nat → Option Nat} : ∀ {a : List ck_AV} {b : List Value}, ck_args ty a b → b.length = a.length
  | [], [], _ => rfl
  | _ :: _, _ :: _, h => by rw [List.length_cons, List.length_cons, ck_args_len h.2]
theorem ck_popA_ok {ty : Nat → Option Nat} {X : Nat → Int} {lv : List (Nat × Value)} {pvv : Nat → Int32} : ∀ {ps : List ck_AV} {S S' : List (ck_AV × Nat)} {st : List Value}, ck_popA S ps = some S' → ck_st ty X lv pvv S st → ∃ vs rest, st = vs ++ rest ∧ ck_args ty ps.reverse vs.reverse ∧ ck_st ty X lv pvv S' rest
  | [], S, S', st, h, hs => by
    have e : S = S' := by cases S <;> exact Option.some.inj h
    subst e
    exact ⟨[], st, rfl, True.intro, hs⟩
  | av :: ps, [], S', st, h, hs => by cases h
  | av :: ps, q :: S, S', [], h, hs => hs.elim
  | av :: ps, q :: S, S', v :: st, h, hs => by
    unfold ck_popA at h
    split at h
    · next hc =>
      obtain ⟨vs, rest, e1, e2, e3⟩ := ck_popA_ok h hs.2
      refine ⟨v :: vs, rest, by rw [e1]; rfl, ?_, e3⟩
      rw [List.reverse_cons, List.reverse_cons]
      have e4 : ck_args ty [av] [v] := ⟨ck_le_ok hc (ck_nod_ok hs.1.1), True.intro⟩
      exact ck_args_app e4 e2
    · cases h
theorem ck_st_at {ty : Nat → Option Nat} {X : Nat → Int} {lv : List (Nat × Value)} {pvv : Nat → Int32} : ∀ {S : List (ck_AV × Nat)} {st : List Value} {k : Nat} {q : ck_AV × Nat}, ck_st ty X lv pvv S st → S[k]? = some q → ∃ v, st[k]? = some v ∧ ck_v ty X q.1 v ∧ ck_src lv pvv q.2 v
  | [], _, k, q, _, h => by simp at h
  | a :: S, [], k, q, hs, _ => hs.elim
  | a :: S, v :: st, 0, q, hs, h => by cases h; exact ⟨v, rfl, hs.1.1, hs.1.2⟩
  | a :: S, v :: st, k + 1, q, hs, h => ck_st_at (k := k) hs.2 h
theorem ck_st_sum {ty : Nat → Option Nat} {X : Nat → Int} {lv : List (Nat × Value)} {pvv : Nat → Int32} : ∀ {S : List (ck_AV × Nat)} {st : List Value}, ck_st ty X lv pvv S st → (st.map fun v => v.category).sum = (S.map fun q => ck_cat q.1).sum
  | [], [], _ => rfl
  | q :: S, v :: st, h => by rw [List.map_cons, List.map_cons, List.sum_cons, List.sum_cons, ck_v_cat h.1.1, ck_st_sum h.2]
/-- a bound on a followed field ahead of a call: against what another holds there now -/
def ck_dlP (P : List ck_AV) (r : ck_I) (d : Nat × Int × Int) : Bool := decide (d.1 % 2 = 0) && decide (2000 ≤ d.1) && (match P[d.1 / 2 - 1000]? with
  | some (.inl z) => (decide (d.2.1 ≤ r.1 - z.2.1) || r.2.2.any (fun q => z.2.2.any (fun g => q.1 == g.1 && decide (d.2.1 ≤ q.2.1 - g.2.2)))) && (decide (r.2.1 - z.1 ≤ d.2.2) || r.2.2.any (fun q => z.2.2.any (fun g => q.1 == g.1 && decide (q.2.2 - g.2.1 ≤ d.2.2))))
  | _ => false)
def ck_lePr (P : List ck_AV) (a b : ck_AV) : Bool := match a, b with
  | .inl r, .inl q => decide (q.1 ≤ r.1) && decide (r.2.1 ≤ q.2.1) && q.2.2.all (ck_dlP P r)
  | _, _ => false
theorem ck_lePr_ok {ty : Nat → Option Nat} {X : Nat → Int} {P : List ck_AV} {pvv : Nat → Int32} (hP : ck_pvo ty X P pvv) {a b : ck_AV} {v : Value} (h : ck_lePr P a b = true) (hv : ck_v ty X a v) : ck_v ty (ck_XE pvv) b v := by
  match a, b, h, hv with
  | .inl r, .inl q, h, hv =>
    obtain ⟨x, rfl, h1, h2, h3⟩ := hv
    simp only [ck_lePr, Bool.and_eq_true, decide_eq_true_eq, List.all_eq_true] at h
    refine ⟨x, rfl, by omega, by omega, fun d hd => ?_⟩
    have h4 := h.2 d hd
    unfold ck_dlP at h4
    simp only [Bool.and_eq_true, decide_eq_true_eq] at h4
    obtain ⟨⟨e1, e2⟩, h4⟩ := h4
    split at h4
    · next z hz =>
      obtain ⟨y, ey, z1, z2, z3⟩ := hP _ _ hz
      cases ey
      simp only [Bool.and_eq_true, Bool.or_eq_true, decide_eq_true_eq, List.any_eq_true, beq_iff_eq] at h4
      obtain ⟨c1, c2⟩ := h4
      unfold ck_XE
      refine ⟨?_, ?_⟩
      · rcases c1 with c1 | ⟨q1, m1, g1, m2, e1, c1⟩
        · omega
        · have k1 := h3 q1 m1
          have k2 := z3 g1 m2
          rw [e1] at k1
          omega
      · rcases c2 with c2 | ⟨q1, m1, g1, m2, e1, c2⟩
        · omega
        · have k1 := h3 q1 m1
          have k2 := z3 g1 m2
          rw [e1] at k1
          omega
    · cases h4
def ck_pre2 (Q : List ck_AV) : List ck_AV → List ck_AV → Bool
  | _, [] => true
  | a :: P, b :: pr => ck_lePr Q a b && ck_pre2 Q P pr
  | [], _ :: _ => false
theorem ck_pre2_ok {ty : Nat → Option Nat} {X : Nat → Int} {Q : List ck_AV} {pvv : Nat → Int32} (hQ : ck_pvo ty X Q pvv) : ∀ {P pr : List ck_AV} {f : Nat → Int32}, ck_pre2 Q P pr = true → ck_pvo ty X P f → ck_pvo ty (ck_XE pvv) pr f
  | _, [], f, _, _ => fun j av h => by simp at h
  | a :: P, b :: pr, f, h, hp => by
    simp only [ck_pre2, Bool.and_eq_true] at h
    intro j av hj
    match j, hj with
    | 0, hj => cases hj; exact ck_lePr_ok hQ h.1 (hp 0 a rfl)
    | j + 1, hj => exact ck_pre2_ok hQ (f := fun j => f (j + 1)) h.2 (fun i bv hi => hp (i + 1) bv hi) j av hj
  | [], _ :: _, f, h, _ => by cases h
def ck_rfs (S : List (ck_AV × Nat)) (n : Nat) : List (Nat × Int × Int) → List (Nat × ck_AV) × List ck_AV → Option (List (Nat × ck_AV) × List ck_AV)
  | [], L => some L
  | q :: qs, L => match S[n - 1 - q.1]? with
    | some (.inl r, src) => if decide (max r.1 q.2.1 ≤ min r.2.1 q.2.2) then ck_rfs S n qs (ck_redLP (max r.1 q.2.1) (min r.2.1 q.2.2) r.2.2 (if src < 1000 then ck_refL L.1 src q.2.1 q.2.2 [] else L.1, L.2)) else none
    | _ => ck_rfs S n qs L
theorem ck_rfs_ok {ty : Nat → Option Nat} {X : Nat → Int} {lv : List (Nat × Value)} {pvv pvv' : Nat → Int32} {S : List (ck_AV × Nat)} {st vs rest : List Value} (hs : ck_st ty X lv pvv S st) (e : st = vs ++ rest) : ∀ {qs : List (Nat × Int × Int)} {L : List (Nat × ck_AV) × List ck_AV}, ck_L ty X L.1 lv → ck_pvo ty X L.2 pvv' → (∀ q ∈ qs, ∃ x : Int32, vs.reverse[q.1]? = some (.int x) ∧ q.2.1 ≤ x.toInt ∧ x.toInt ≤ q.2.2) → ∃ L', ck_rfs S vs.length qs L = some L' ∧ ck_L ty X L'.1 lv ∧ ck_pvo ty X L'.2 pvv'
  | [], L, hL, hP, _ => ⟨L, rfl, hL, hP⟩
  | q :: qs, L, hL, hP, h => by
    have hr : ∀ z ∈ qs, ∃ x : Int32, vs.reverse[z.1]? = some (.int x) ∧ z.2.1 ≤ x.toInt ∧ x.toInt ≤ z.2.2 := fun z hz => h z (List.mem_cons_of_mem _ hz)
    obtain ⟨x, h1, h2, h3⟩ := h q List.mem_cons_self
    unfold ck_rfs
    split
    · next r src hS =>
      obtain ⟨v, g1, ⟨y, rfl, gy⟩, g3⟩ := ck_st_at hs hS
      have hlt : q.1 < vs.reverse.length := (List.getElem?_eq_some_iff.mp h1).1
      rw [List.length_reverse] at hlt
      rw [List.getElem?_reverse hlt] at h1
      rw [e, List.getElem?_append_left (by omega), h1] at g1
      cases g1
      have b1 := gy.1
      have b2 := gy.2.1
      rw [if_pos (by simp only [decide_eq_true_eq]; omega)]
      have hL' : ck_L ty X (if src < 1000 then ck_refL L.1 src q.2.1 q.2.2 [] else L.1) lv := by
        split
        · next h9 => exact ck_refL_ok (ds := []) h2 h3 (fun d h => nomatch h) hL (g3.1 h9)
        · exact hL
      obtain ⟨k1, k2⟩ := ck_redLP_ok (lv := lv) (pvv := pvv') (lo := max r.1 q.2.1) (hi := min r.2.1 q.2.2) (n := x.toInt) (by omega) (by omega) (q := (if src < 1000 then ck_refL L.1 src q.2.1 q.2.2 [] else L.1, L.2)) gy.2.2 hL' hP
      exact ck_rfs_ok hs e k1 k2 hr
    · exact ck_rfs_ok hs e hL hP hr
def ck_pvp1 (P : List ck_AV) : List (Nat × Int × Int) → ck_I → ck_I
  | [], r => r
  | d :: ds, r => match P[d.1 / 2 - 1000]? with
    | some (.inl q) => ck_pvp1 P ds (max r.1 (q.1 + d.2.1), min r.2.1 (q.2.1 + d.2.2), r.2.2 ++ ck_sh d.2.1 d.2.2 q.2.2)
    | _ => ck_pvp1 P ds r
def ck_pvp (P : List ck_AV) (av : ck_AV) : ck_AV := match av with
  | .inl r => .inl (ck_pvp1 P r.2.2 (r.1, r.2.1, []))
  | x => x
theorem ck_pvp1_ok {ty : Nat → Option Nat} {X : Nat → Int} {P : List ck_AV} {pvv : Nat → Int32} (hP : ck_pvo ty X P pvv) {n : Int} : ∀ {ds : List (Nat × Int × Int)} {r : ck_I}, ck_i X r n → ck_d (ck_XE pvv) n ds → ck_i X (ck_pvp1 P ds r) n
  | [], r, hr, _ => hr
  | d :: ds, r, hr, hd => by
    have hd' : ck_d (ck_XE pvv) n ds := fun z hz => hd z (List.mem_cons_of_mem _ hz)
    unfold ck_pvp1
    split
    · next q hq =>
      obtain ⟨x, e, g1, g2, g3⟩ := hP _ _ hq
      cases e
      have h0 := hd d List.mem_cons_self
      simp only [ck_XE] at h0
      obtain ⟨r1, r2, r3⟩ := hr
      refine ck_pvp1_ok hP ⟨by dsimp only; omega, by dsimp only; omega, ck_d_app r3 ?_⟩ hd'
      have h1 := ck_sh_ok (k := n - (pvv (d.1 / 2 - 1000)).toInt) g3 h0.1 h0.2
      have e1 : (pvv (d.1 / 2 - 1000)).toInt + (n - (pvv (d.1 / 2 - 1000)).toInt) = n := by omega
      rw [e1] at h1
      exact h1
    · exact ck_pvp1_ok hP hr hd'
theorem ck_pvp_ok {ty : Nat → Option Nat} {X : Nat → Int} {P : List ck_AV} {pvv : Nat → Int32} (hP : ck_pvo ty X P pvv) {av : ck_AV} {v : Value} (h : ck_v ty (ck_XE pvv) av v) : ck_v ty X (ck_pvp P av) v := by
  match av, h with
  | .inl r, h =>
    obtain ⟨x, e, a1, a2, a3⟩ := h
    exact ⟨x, e, ck_pvp1_ok hP ⟨a1, a2, fun d h => nomatch h⟩ a3⟩
  | .inr (.inl t), h => exact h
  | .inr (.inr u), h => exact h
/-- behind a call: one state for each way to end -/
def ck_emp (av : ck_AV) : Bool := match av with
  | .inl r => decide (r.2.1 < r.1)
  | _ => false
theorem ck_emp_ok {ty : Nat → Option Nat} {X : Nat → Int} {P : List ck_AV} {pvv : Nat → Int32} (h : ck_pvo ty X P pvv) : P.any ck_emp = false := by
  rw [List.any_eq_false]
  intro av hav he
  obtain ⟨j, hj⟩ := List.getElem?_of_mem hav
  have h1 := h j av hj
  match av, h1, he with
  | .inl r, h1, he =>
    obtain ⟨x, -, a1, a2, -⟩ := h1
    have := of_decide_eq_true he
    omega
def ck_cal (S S' : List (ck_AV × Nat)) (L : List (Nat × ck_AV)) (P : List ck_AV) (n pc : Nat) : List ck_Case → List (Nat × ck_AS)
  | [] => []
  | cs :: r => match ck_rfs S n cs.2.1 (L, cs.2.2.map (ck_pvp P)) with
    | none => ck_cal S S' L P n pc r
    | some L' => if L'.2.any ck_emp then ck_cal S S' L P n pc r else (pc + 3, (L'.1, (match cs.1 with
        | none => ck_clr (fun z => decide (1000 ≤ z)) S'
        | some av => (ck_nod av, 0) :: ck_clr (fun z => decide (1000 ≤ z)) S'), L'.2)) :: ck_cal S S' L P n pc r
theorem ck_cal_in {S S' : List (ck_AV × Nat)} {L : List (Nat × ck_AV)} {L' : List (Nat × ck_AV) × List ck_AV} {P : List ck_AV} {n pc : Nat} {cs : ck_Case} (hr : ck_rfs S n cs.2.1 (L, cs.2.2.map (ck_pvp P)) = some L') (he : L'.2.any ck_emp = false) : ∀ {css : List ck_Case}, cs ∈ css → (pc + 3, (L'.1, (match cs.1 with
        | none => ck_clr (fun z => decide (1000 ≤ z)) S'
        | some av => (ck_nod av, 0) :: ck_clr (fun z => decide (1000 ≤ z)) S'), L'.2)) ∈ ck_cal S S' L P n pc css
  | [], h => by cases h
  | c0 :: r, h => by
    unfold ck_cal
    rcases List.mem_cons.mp h with h | h
    · subst h
      rw [hr]
      simp only [he, Bool.false_eq_true, if_false]
      exact List.mem_cons_self
    · split
      · exact ck_cal_in hr he h
      · split
        · exact ck_cal_in hr he h
        · exact List.mem_cons_of_mem _ (ck_cal_in hr he h)
def ck_try (tab : Nat → ck_K) (bd : Nat) (k : ck_K) (pc : Nat) (A : ck_AS) : List Nat → Option (List (Nat × ck_AS))
  | [] => none
  | j :: js => match (if decide (j < bd) && decide (k_fr (tab j) + 1 ≤ k_fr k) && decide (8 + (k_ml (tab j) + 11) + k_lo (tab j) ≤ k_lo k) && ck_pre2 A.2.2 A.2.2 (k_pr (tab j)) then ck_popA A.2.1 (k_pa (tab j)).reverse else none) with
    | some S' => if decide ((S'.map fun q => ck_cat q.1).sum ≤ 8) then some (ck_cal A.2.1 S' A.1 A.2.2 (k_pa (tab j)).length pc (k_cs (tab j))) else none
    | none => ck_try tab bd k pc A js
theorem ck_try_ok {tab : Nat → ck_K} {bd : Nat} {k : ck_K} {pc : Nat} {A : ck_AS} {out : List (Nat × ck_AS)} : ∀ {js : List Nat}, ck_try tab bd k pc A js = some out → ∃ j ∈ js, ∃ S', j < bd ∧ k_fr (tab j) + 1 ≤ k_fr k ∧ 8 + (k_ml (tab j) + 11) + k_lo (tab j) ≤ k_lo k ∧ ck_pre2 A.2.2 A.2.2 (k_pr (tab j)) = true ∧ ck_popA A.2.1 (k_pa (tab j)).reverse = some S' ∧ (S'.map fun q => ck_cat q.1).sum ≤ 8 ∧ out = ck_cal A.2.1 S' A.1 A.2.2 (k_pa (tab j)).length pc (k_cs (tab j))
  | [], h => by cases h
  | j :: js, h => by
    unfold ck_try at h
    split at h
    · next S' hS =>
      split at hS
      · next hc =>
        split at h
        · next hsum =>
          cases h
          simp only [Bool.and_eq_true, decide_eq_true_eq] at hc
          exact ⟨j, List.mem_cons_self, S', hc.1.1.1, hc.1.1.2, hc.1.2, hc.2, hS, of_decide_eq_true hsum, rfl⟩
        · cases h
      · cases hS
    · obtain ⟨j', h1, h2⟩ := ck_try_ok h
      exact ⟨j', List.mem_cons_of_mem _ h1, h2⟩
section CK9
variable {p : Program} {l : Launch} {e : Env} {R : Room} {s : State} {m : MethodId} {args : Array Value} {below : List Frame} {meth : Method} {c : Code} {H H0 : Heap} {locs : List Loc} {Q : State → Prop} {cc : ByteArray} {pc len : Nat} {ls : Array Slot} {st : List Value}
variable {D : va_G} {cys : Nat → ClassId} {ty : Nat → Option Nat} {tg : List ck_TD} {pvT : List (Nat × Nat)} {prot : Nat → List (Nat × Nat)} {Ex : va_W → Prop} {pvv : Nat → Int32} {Ts : List Jvm.Cond} {LK : Nat → Nat → Option ck_En} {o nL : Nat} {X : Nat → Int} {A : ck_AS} {out : List (Nat × ck_AS)} {i : Instr}
variable {tab : Nat → ck_K} {bd : Nat} {k : ck_K}
theorem ck_blind (vs : List Value) : FrameBlind (va_Pc vs (ck_B D cys ty tg pvT Ex pvv)) := by
  intro a U g mk q
  obtain ⟨q0, q1, q2, q3⟩ := q
  exact ⟨q0, q1, va_K.moved (u := U) (U := U.calling g mk a) (Vm.Alike.refl U.vm) q2, fun w hw => va_Nw.same (ck_nest_tab w hw) (u := U) rfl (q3 w hw)⟩
theorem ck_after {kc : ck_K} {vs : List Value} {a : Array Value} {rest st0 : List Value} (hr : va_Run p l e R s m args below meth c H locs 0 0 0 0 (F0 m pc ls st0) rest (ck_Qc D cys ty tg pvT Ex kc vs pvv a) (ck_own ty)) (hS : va_S (ck_own ty) H0 H locs)
    (kk : ∀ cs ∈ k_cs kc, ∀ (r : Option Value) (pvv' : Nat → Int32) (H1 : Heap) (locs1 : List Loc), ck_caseOK ty cs vs pvv pvv' r → ck_Wo D cys ty tg pvT Ex pvv' H1 → va_S (ck_own ty) H0 H1 locs1 → W p l e R s m args below meth c H1 locs1 0 0 Q (F0 m (pc + 3) ls (r.toList ++ rest))) : W p l e R s m args below meth c H locs 0 0 Q (F0 m pc ls st0) := by
  intro T hT X
  obtain ⟨v, st₀, t, T', L, h0, X', hL, e1, e2, ⟨⟨cs, hcs, r, pvv', hv, hp, hb⟩, hz, hk⟩, st⟩ := hr T hT X
  cases hv
  rw [h0] at hz hk
  obtain ⟨t2, a1, b1⟩ := kk cs hcs v pvv' T'.heap (locs ++ L) hp (by rw [e1]; exact hb)
    ⟨Nat.le_trans hS.1 (by rw [e1]; exact hz), fun q h1 h2 => by rw [e1, hk q (Nat.lt_of_lt_of_le h1 hS.1) h2]; exact hS.2.1 q h1 h2, fun q hq => by
      rcases List.mem_append.mp hq with h | h
      · exact hS.2.2 q h
      · exact hL q h⟩ T' rfl X'
  exact ⟨t2, st t2 a1, b1⟩
/-- a call whose words stand: what each way to end gives -/
theorem ck_call1 {kc : ck_K} {L : List (Nat × ck_AV)} {S S' : List (ck_AV × Nat)} {P : List ck_AV} {lv : List (Nat × Value)} {vs rest : List Value} {a : Array Value} (h1 : lv_has ls nL lv) (h2 : ck_L ty X L lv) (h3 : ck_st ty X lv pvv S (vs ++ rest)) (h4 : ck_pvo ty X P pvv) (h6 : va_S (ck_own ty) H0 H locs) (h7 : ck_st ty X lv pvv S' rest) (hlen : vs.length = (k_pa kc).length)
    (hr : va_Run p l e R s m args below meth c H locs 0 0 0 0 (F0 m pc ls (vs ++ rest)) rest (ck_Qc D cys ty tg pvT Ex kc vs.reverse pvv a) (ck_own ty)) (ho : out = ck_cal S S' L P (k_pa kc).length pc (k_cs kc)) (hn : ∀ q ∈ out, ∀ (ls' : Array Slot) (st' : List Value) (pvv' : Nat → Int32) (H' : Heap) (locs' : List Loc), ck_sat D cys ty tg pvT Ex nL H0 X q.2 ls' st' pvv' H' locs' → W p l e R s m args below meth c H' locs' 0 0 Q (F0 m q.1 ls' st')) : W p l e R s m args below meth c H locs 0 0 Q (F0 m pc ls (vs ++ rest)) := by
  refine ck_after hr h6 (fun cs hcs r pvv' H1 locs1 hca hW1 hS1 => ?_)
  obtain ⟨c1, c2, c3⟩ := hca
  subst ho
  have hclr : ck_st ty X lv pvv' (ck_clr (fun z => decide (1000 ≤ z)) S') rest := ck_clr_ok (f := fun z => decide (1000 ≤ z)) (lv := lv) (pvv := pvv) (fun src w hf hs => ⟨hs.1, fun h9 => by simp at hf; omega⟩) h7
  have hpv : ck_pvo ty X (cs.2.2.map (ck_pvp P)) pvv' := by
    intro j av hj
    rw [List.getElem?_map] at hj
    cases hq : cs.2.2[j]? with
    | none => rw [hq] at hj; cases hj
    | some bv =>
      rw [hq] at hj
      cases hj
      exact ck_pvp_ok h4 (c3 j bv hq)
  obtain ⟨L', q1, q2, q3⟩ := ck_rfs_ok (L := (L, cs.2.2.map (ck_pvp P))) h3 rfl h2 hpv c2
  rw [hlen] at q1
  refine hn _ (ck_cal_in q1 (ck_emp_ok q3) hcs) _ _ _ _ _ ⟨lv, h1, q2, ?_, q3, hW1, hS1⟩
  match hcr : cs.1, r, c1 with
  | none, none, _ => exact hclr
  | some av, some v, c1 =>
    exact ⟨⟨ck_nod_ok c1, ck_src0⟩, hclr⟩
def ck_g7 (tg : List ck_TD) (pvT : List (Nat × Nat)) (prot : Nat → List (Nat × Nat)) (LK : Nat → Nat → Option ck_En) (tab : Nat → ck_K) (bd : Nat) (k : ck_K) (pc : Nat) (i : Instr) (len : Nat) (A : ck_AS) : Option (List (Nat × ck_AS)) := match i, len with
  | .invokevirtual ix, 3 => match LK (k_ow k) ix with
    | some (.inr (.inr (.inr (.inl (0, js))))) => ck_try tab bd k pc A js
    | _ => none
  | .invokestatic ix, 3 => match LK (k_ow k) ix with
    | some (.inr (.inr (.inr (.inl (1, js))))) => ck_try tab bd k pc A js
    | some (.inr (.inr (.inr (.inl (2, js))))) => ck_try tab bd k pc A js
    | some (.inr (.inr (.inr (.inr _)))) => match A.2.1 with
      | (.inl n, _) :: (.inl d, _) :: (.inr (.inl t), _) :: (.inl z, _) :: (.inr (.inl t'), _) :: S => match tg[t]? with
        | some (.inr (kd, N, _, _)) => if decide (t = t') && decide (kd = 0 ∨ kd = 3) && (prot t).isEmpty && ck_nfa pvT t && decide (d.1 = 0) && decide (d.2.1 = 0) && decide (z.1 = 0) && decide (z.2.1 = 0) && decide (0 ≤ n.1) && decide (n.2.1 ≤ N) && decide (1 ≤ k_fr k) && decide ((S.map fun q => ck_cat q.1).sum + 18 ≤ k_lo k) then some [(pc + 3, (A.1, S, A.2.2))] else none
        | _ => none
      | _ => none
    | _ => none
  | _, _ => none
theorem ck_nat3 : Jvm.Cond.native arraycopyName ∈ wsL_law0 ∧ Jvm.Cond.static arraycopyName ∈ wsL_law0 ∧ Jvm.Cond.initialized "java/lang/System" ∈ wsL_law0 := by
  have e : wsL_law0_r23 = wsL_law0_r23 := rfl
  refine ⟨?_, ?_, ?_⟩ <;> decide +kernel
theorem ck_g7_ok (hLK : ck_LKm tg LK tab) (hHo : ∀ j, j < bd → ck_Holds l D cys ty tg pvT Ex (tab j)) (hexec : p.tables.exec = Jvm.exec) (hb : c.code = cc) (hml : c.maxLocals = nL) (hts : ∀ w ∈ Ts, w.before args s = true) (hin : ∀ w ∈ wsL_law0, w ∈ Ts) (hown : s.vm.findClass (ck_R (k_ow k)) = some m.cls) (hK : va_K D ck_cl (ck_tys cys) s) (hNw : ∀ w ∈ ck_nest, va_Nw w s) (hX : ck_ExP ty prot Ex) (hRf : R.frames = k_fr k) (hRl : R.locals = k_lo k) (h : ck_g7 tg pvT prot LK tab bd k pc i len A = some out) (hdg : decode cc pc = .ok (i, len)) (hsat : ck_sat D cys ty tg pvT Ex nL H0 X A ls st pvv H locs) (hn : ∀ q ∈ out, ∀ (ls' : Array Slot) (st' : List Value) (pvv' : Nat → Int32) (H' : Heap) (locs' : List Loc), ck_sat D cys ty tg pvT Ex nL H0 X q.2 ls' st' pvv' H' locs' → W p l e R s m args below meth c H' locs' 0 0 Q (F0 m q.1 ls' st')) : W p l e R s m args below meth c H locs 0 0 Q (F0 m pc ls st) := by
  obtain ⟨L, S, P⟩ := A
  obtain ⟨lv, h1, h2, h3, h4, h5, h6⟩ := hsat
  have hPc : ∀ (vs : List Value) (U : State), U.heap = H → s.WarmedH U.vm → va_Pc vs (ck_B D cys ty tg pvT Ex pvv) vs.toArray U := fun vs U hU hW => ⟨rfl, by rw [hU]; exact h5, va_K.moved hW.alike hK, ck_nest_warm hW hNw⟩
  have hG : ∀ kc : ck_K, Jvm.Cond.code (k_y kc) (k_cc kc) (k_ml kc) (k_rt kc) ∈ wsL_law0 → GoodIn Ts (ck_ws kc) := fun kc hc w hw => by
    rcases List.mem_cons.mp hw with hw | hw
    · subst hw; exact ⟨hin _ hc, ck_good _ hc⟩
    · exact ⟨hin _ hw, ck_good _ hw⟩
  unfold ck_g7 at h
  split at h
  · next ix =>
    split at h
    · next js hl =>
      obtain ⟨j, hj, S', hbd, hfr, hlo, hpre, hpop, hsum, ho⟩ := ck_try_ok h
      obtain ⟨m1, m2, m3, m4, -⟩ := hLK.1 _ _ _ _ hl j hj
      obtain ⟨w1, w2, w3, t, ci, fts, r, pa, p1, p2, p3, p4, p5⟩ := m4 rfl
      obtain ⟨vs, rest, e1, e2, e3⟩ := ck_popA_ok hpop h3
      subst e1
      rw [List.reverse_reverse, p1] at e2
      have hvl := ck_args_len e2
      have hM := hHo j hbd vs.reverse pvv (by rw [p1]; exact e2) (ck_pre2_ok h4 hpre h4)
      match hvr : vs.reverse, e2 with
      | v0 :: As, e2 =>
        obtain ⟨⟨b, rfl, hb0⟩, e4⟩ := e2
        have hvs : vs = As.reverse ++ [.ref b] := by rw [← List.reverse_reverse vs, hvr, List.reverse_cons]
        have hAs : As.length = pa.length := by
          rw [hvr] at hvl
          simp only [List.length_cons] at hvl
          omega
        rw [hvr] at hM
        obtain ⟨ws, hP, hD, hT, hV, hE⟩ := id h5
        obtain ⟨q, en, td, g1, g2, g3⟩ := hT b t hb0
        rw [p2] at g2
        cases g2
        obtain ⟨fs, rfl, -, -⟩ := g3
        have hrun := va_runV (p := p) (l := l) (e := e) (R := R) (s := s) (m := m) (args := args) (below := below) (meth := meth) (c := c) (H := H) (locs := locs) (cells := 0) (slots := 0) (g := F0 m pc ls (vs ++ rest)) (As := As) (rest := rest) (b := b) (nL := nL) (own := ck_R (k_ow k)) (index := ix) (bytes := k_cc (tab j)) (maxL := k_ml (tab j)) (ret := k_rt (tab j)) (n := pa.length) ⟨hexec, hb, hml, hown, hts⟩ hM ⟨callB_of pa.length hts (hG _ m1) rfl rfl rfl (hts _ (hin _ m2)) (hts _ (hin _ w1)) ⟨m3.1, m3.2, p5⟩ ⟨by rw [hRf]; exact hfr, by rw [hRl]; exact hlo⟩, hts _ (hin _ w2), hts _ (hin _ w3)⟩
          ⟨ck_blind _, by have := va_recv hK hP p3 g1; rw [p4] at this; exact this, hPc _⟩ rfl hAs h1.1 (by show vs ++ rest = _; rw [hvs, List.append_assoc]; rfl) (lv_room (by rw [ck_st_sum e3]; exact hsum)) hdg ⟨Nat.zero_le _, Nat.zero_le _⟩
        rw [← hvr] at hrun
        exact ck_call1 (kc := tab j) h1 h2 h3 h4 h6 e3 (by rw [p1, ← List.length_reverse, hvl]) hrun ho hn
    · cases h
  · next ix =>
    split at h
    · next js hl =>
      obtain ⟨j, hj, S', hbd, hfr, hlo, hpre, hpop, hsum, ho⟩ := ck_try_ok h
      obtain ⟨m1, m2, m3, -, m4, -⟩ := hLK.1 _ _ _ _ hl j hj
      obtain ⟨w1, w2, p5⟩ := m4 rfl
      obtain ⟨vs, rest, e1, e2, e3⟩ := ck_popA_ok hpop h3
      subst e1
      rw [List.reverse_reverse] at e2
      have hvl := ck_args_len e2
      have hM := hHo j hbd vs.reverse pvv e2 (ck_pre2_ok h4 hpre h4)
      have hrun := va_runS (p := p) (l := l) (e := e) (R := R) (s := s) (m := m) (args := args) (below := below) (meth := meth) (c := c) (H := H) (locs := locs) (cells := 0) (slots := 0) (g := F0 m pc ls (vs ++ rest)) (As := vs.reverse) (rest := rest) (nL := nL) (own := ck_R (k_ow k)) (index := ix) (bytes := k_cc (tab j)) (maxL := k_ml (tab j)) (ret := k_rt (tab j)) (n := (k_pa (tab j)).length) ⟨hexec, hb, hml, hown, hts⟩ hM ⟨callB_of _ hts (hG _ m1) rfl rfl rfl (hts _ (hin _ m2)) (hts _ (hin _ w1)) ⟨m3.1, m3.2, p5⟩ ⟨by rw [hRf]; exact hfr, by rw [hRl]; exact hlo⟩, hts _ (hin _ w2)⟩
          ⟨ck_blind _, hPc _⟩ rfl hvl h1.1 (by show vs ++ rest = _; rw [List.reverse_reverse]) (lv_room (by rw [ck_st_sum e3]; exact hsum)) hdg ⟨Nat.zero_le _, Nat.zero_le _⟩
      exact ck_call1 (kc := tab j) h1 h2 h3 h4 h6 e3 (by rw [← List.length_reverse, hvl]) hrun ho hn
    · next js hl =>
      obtain ⟨j, hj, S', hbd, hfr, hlo, hpre, hpop, hsum, ho⟩ := ck_try_ok h
      obtain ⟨m1, m2, m3, -, -, m4⟩ := hLK.1 _ _ _ _ hl j hj
      obtain ⟨w1, w2, p5⟩ := m4 rfl
      obtain ⟨vs, rest, e1, e2, e3⟩ := ck_popA_ok hpop h3
      subst e1
      rw [List.reverse_reverse] at e2
      have hvl := ck_args_len e2
      have hM := hHo j hbd vs.reverse pvv e2 (ck_pre2_ok h4 hpre h4)
      have hrun := va_runSN (p := p) (l := l) (e := e) (R := R) (s := s) (m := m) (args := args) (below := below) (meth := meth) (c := c) (H := H) (locs := locs) (cells := 0) (slots := 0) (g := F0 m pc ls (vs ++ rest)) (As := vs.reverse) (rest := rest) (nL := nL) (own := ck_R (k_ow k)) (host := RX11) (index := ix) (bytes := k_cc (tab j)) (maxL := k_ml (tab j)) (ret := k_rt (tab j)) (n := (k_pa (tab j)).length) ⟨hexec, hb, hml, hown, hts⟩ hM ⟨va_cnB _ hts (hG _ m1) rfl rfl rfl (hNw _ w1) (hts _ (hin _ m2)) ⟨m3.1, m3.2, p5⟩ ⟨by rw [hRf]; exact hfr, by rw [hRl]; exact hlo⟩, hts _ (hin _ w2), True.intro⟩
          ⟨ck_blind _, hPc _⟩ rfl hvl h1.1 (by show vs ++ rest = _; rw [List.reverse_reverse]) (lv_room (by rw [ck_st_sum e3]; exact hsum)) hdg ⟨Nat.zero_le _, Nat.zero_le _⟩
      exact ck_call1 (kc := tab j) h1 h2 h3 h4 h6 e3 (by rw [← List.length_reverse, hvl]) hrun ho hn
    · next u hl =>
      split at h
      · next n _ d _ t _ z _ t' _ S' hS =>
        split at h
        · next kd N sg et ht =>
          split at h
          · next hc =>
            cases h
            simp only [Bool.and_eq_true, decide_eq_true_eq, List.isEmpty_iff] at hc
            obtain ⟨⟨⟨⟨⟨⟨⟨⟨⟨⟨⟨c1, c2⟩, c3⟩, c3b⟩, c4⟩, c5⟩, c6⟩, c7⟩, c8⟩, c9⟩, c10⟩, c11⟩ := hc
            subst c1
            dsimp only at hS
            subst hS
            match st, h3 with
            | v1 :: v2 :: v3 :: v4 :: v5 :: rest, h3 =>
              obtain ⟨⟨⟨x1, rfl, g1⟩, -⟩, ⟨⟨x2, rfl, g2⟩, -⟩, ⟨⟨a3, rfl, g3⟩, -⟩, ⟨⟨x4, rfl, g4⟩, -⟩, ⟨⟨a5, rfl, g5⟩, -⟩, g6⟩ := h3
              obtain ⟨b1, b2, -⟩ := g1
              obtain ⟨b3, b4, -⟩ := g2
              obtain ⟨b5, b6, -⟩ := g4
              have hlo : (rest.map fun v => v.category).sum + 18 ≤ R.locals := by rw [ck_st_sum g6, hRl]; exact c11
              rcases c2 with rfl | rfl
              · refine ck_copyi hexec hb (hml.trans h1.1.symm) hts hin hown (hLK.2 _ _ _ hl) ck_nat3.1 ck_nat3.2.1 ck_nat3.2.2 hK hX h5 h6 (ck_nfa_ok c3b) g3 g5 ht c3 (by omega) (by omega) (by omega) (by omega) (by rw [hRf]; exact c10) hlo hdg (fun H1 locs1 e1 e2 => ?_)
                exact hn _ List.mem_cons_self _ _ _ _ _ ⟨lv, h1, h2, g6, h4, e1, e2⟩
              · refine ck_copyl hexec hb (hml.trans h1.1.symm) hts hin hown (hLK.2 _ _ _ hl) ck_nat3.1 ck_nat3.2.1 ck_nat3.2.2 hK hX h5 h6 (ck_nfa_ok c3b) g3 g5 ht c3 (by omega) (by omega) (by omega) (by omega) (by rw [hRf]; exact c10) hlo hdg (fun H1 locs1 e1 e2 => ?_)
                exact hn _ List.mem_cons_self _ _ _ _ _ ⟨lv, h1, h2, g6, h4, e1, e2⟩
          · cases h
        · cases h
      · cases h
    · cases h
  · cases h
end CK9
end
section
/-! THE CHECKER, 9: returns; the whole of a method. -/
def ck_li (pa : List ck_AV) (n : Nat) : Nat := ((pa.take n).map ck_cat).sum
def ck_ent (L : List (Nat × ck_AV)) (li : Nat) (lo hi : Int) : Bool := L.any (fun q => match q.2 with
  | .inl r => r.2.2.any (fun d => d.1 == 2 * li && decide (lo ≤ r.1 - d.2.2) && decide (r.2.1 - d.2.1 ≤ hi))
  | _ => false)
theorem ck_L_at {ty : Nat → Option Nat} {X : Nat → Int} : ∀ {L : List (Nat × ck_AV)} {lv : List (Nat × Value)} {q : Nat × ck_AV}, ck_L ty X L lv → q ∈ L → ∃ v, ck_v ty X q.2 v
  | [], _, _, _, h => by cases h
  | a :: L, [], _, hL, _ => hL.elim
  | a :: L, b :: lv, q, hL, h => by
    rcases List.mem_cons.mp h with h | h
    · subst h; exact ⟨b.2, hL.1.2⟩
    · exact ck_L_at hL.2 h
theorem ck_ent_ok {ty : Nat → Option Nat} {X : Nat → Int} {L : List (Nat × ck_AV)} {lv : List (Nat × Value)} {li : Nat} {lo hi : Int} (hL : ck_L ty X L lv) (h : ck_ent L li lo hi = true) : lo ≤ X (2 * li) ∧ X (2 * li) ≤ hi := by
  obtain ⟨q, hq, h1⟩ := List.any_eq_true.mp h
  obtain ⟨v, hv⟩ := ck_L_at hL hq
  split at h1
  · next r hr =>
    rw [hr] at hv
    obtain ⟨x, -, a1, a2, a3⟩ := hv
    obtain ⟨d, hd, h2⟩ := List.any_eq_true.mp h1
    simp only [Bool.and_eq_true, decide_eq_true_eq, beq_iff_eq] at h2
    have := a3 d hd
    rw [h2.1.1] at this
    omega
  · cases h1
def ck_ev (av : ck_AV) : Bool := match av with
  | .inl r => r.2.2.all (fun d => decide (d.1 % 2 = 0) && decide (2000 ≤ d.1))
  | _ => true
/-- a bound against a starting value of a followed field: each side by what is noted, or by the ranges -/
def ck_dlE (E : List ck_AV) (r : ck_I) (d : Nat × Int × Int) : Bool := (r.2.2.any (fun q => q.1 == d.1 && decide (d.2.1 ≤ q.2.1)) || (match E[d.1 / 2 - 1000]? with
  | some (.inl z) => decide (d.1 % 2 = 0) && decide (2000 ≤ d.1) && decide (d.2.1 ≤ r.1 - z.2.1)
  | _ => false)) && (r.2.2.any (fun q => q.1 == d.1 && decide (q.2.2 ≤ d.2.2)) || (match E[d.1 / 2 - 1000]? with
  | some (.inl z) => decide (d.1 % 2 = 0) && decide (2000 ≤ d.1) && decide (r.2.1 - z.1 ≤ d.2.2)
  | _ => false))
def ck_Er (E : List ck_AV) (X : Nat → Int) : Prop := ∀ (j : Nat) (z : ck_I), E[j]? = some (.inl z) → z.1 ≤ X (2 * (1000 + j)) ∧ X (2 * (1000 + j)) ≤ z.2.1
theorem ck_dlE_ok {X : Nat → Int} {E : List ck_AV} {r : ck_I} {d : Nat × Int × Int} {n : Int} (hE : ck_Er E X) (h : ck_dlE E r d = true) (hr : ck_i X r n) : d.2.1 ≤ n - X d.1 ∧ n - X d.1 ≤ d.2.2 := by
  obtain ⟨h1, h2, h3⟩ := hr
  simp only [ck_dlE, Bool.and_eq_true, Bool.or_eq_true, List.any_eq_true, beq_iff_eq, decide_eq_true_eq] at h
  obtain ⟨c1, c2⟩ := h
  refine ⟨?_, ?_⟩
  · rcases c1 with ⟨q, hq, e, c1⟩ | c1
    · have := h3 q hq
      rw [e] at this
      omega
    · split at c1
      · next z hz =>
        simp only [Bool.and_eq_true, decide_eq_true_eq] at c1
        have h4 := hE _ _ hz
        rw [show 2 * (1000 + (d.1 / 2 - 1000)) = d.1 by omega] at h4
        omega
      · cases c1
  · rcases c2 with ⟨q, hq, e, c2⟩ | c2
    · have := h3 q hq
      rw [e] at this
      omega
    · split at c2
      · next z hz =>
        simp only [Bool.and_eq_true, decide_eq_true_eq] at c2
        have h4 := hE _ _ hz
        rw [show 2 * (1000 + (d.1 / 2 - 1000)) = d.1 by omega] at h4
        omega
      · cases c2
def ck_leE (E : List ck_AV) (a b : ck_AV) : Bool := match a, b with
  | .inl r, .inl q => decide (q.1 ≤ r.1) && decide (r.2.1 ≤ q.2.1) && q.2.2.all (ck_dlE E r)
  | .inr (.inl t), .inr (.inl u) => t == u
  | .inr (.inr _), .inr (.inr _) => true
  | _, _ => false
theorem ck_leE_ok {ty : Nat → Option Nat} {X : Nat → Int} {E : List ck_AV} (hE : ck_Er E X) {a b : ck_AV} {v : Value} (h : ck_leE E a b = true) (hv : ck_v ty X a v) : ck_v ty X b v := by
  match a, b, h, hv with
  | .inl r, .inl q, h, hv =>
    obtain ⟨x, rfl, h1, h2, h3⟩ := hv
    simp only [ck_leE, Bool.and_eq_true, decide_eq_true_eq, List.all_eq_true] at h
    exact ⟨x, rfl, by omega, by omega, fun d hd => ck_dlE_ok hE (h.2 d hd) ⟨h1, h2, h3⟩⟩
  | .inr (.inl t), .inr (.inl u), h, hv =>
    obtain ⟨y, rfl, h1⟩ := hv
    simp only [ck_leE, beq_iff_eq] at h
    exact ⟨y, rfl, by rw [← h]; exact h1⟩
  | .inr (.inr _), .inr (.inr _), _, hv => exact hv
def ck_le2 (E : List ck_AV) : List ck_AV → List ck_AV → Bool
  | _, [] => true
  | a :: P, b :: pr => ck_leE E a b && ck_le2 E P pr
  | [], _ :: _ => false
theorem ck_le2_ok {ty : Nat → Option Nat} {X : Nat → Int} {E : List ck_AV} (hE : ck_Er E X) : ∀ {P pr : List ck_AV} {f : Nat → Int32}, ck_le2 E P pr = true → ck_pvo ty X P f → ck_pvo ty X pr f
  | _, [], f, _, _ => fun j av h => by simp at h
  | a :: P, b :: pr, f, h, hp => by
    simp only [ck_le2, Bool.and_eq_true] at h
    intro j av hj
    match j, hj with
    | 0, hj => cases hj; exact ck_leE_ok hE h.1 (hp 0 a rfl)
    | j + 1, hj => exact ck_le2_ok hE (f := fun j => f (j + 1)) h.2 (fun i bv hi => hp (i + 1) bv hi) j av hj
  | [], _ :: _, f, h, _ => by cases h
theorem ck_Er_of {ty : Nat → Option Nat} {pa : List ck_AV} {vs : List Value} {pvv : Nat → Int32} {X Y : Nat → Int} {E : List ck_AV} (h0 : ∀ j : Nat, X (2 * (1000 + j)) = (pvv j).toInt) (h : ck_pvo ty Y E pvv) : ck_Er E X := by
  intro j z hz
  obtain ⟨x, e, a1, a2, -⟩ := h j _ hz
  cases e
  rw [h0 j]
  exact ⟨a1, a2⟩
def ck_isI (av : Option ck_AV) : Bool := match av with
  | some (.inl _) => true
  | _ => false
def ck_rvc (a b : Option ck_AV) : Bool := match a, b with
  | none, none => true
  | some a, some b => ck_le (ck_nod a) b
  | _, _ => false
def ck_rc (E pa : List ck_AV) (A : ck_AS) (rv : Option ck_AV) (cs : ck_Case) : Bool := ck_rvc rv cs.1 && cs.2.1.all (fun q => ck_isI pa[q.1]? && ck_ent A.1 (ck_li pa q.1) q.2.1 q.2.2) && ck_le2 E A.2.2 cs.2.2 && cs.2.2.all ck_ev
def ck_ret (k : ck_K) (A : ck_AS) (rv : Option ck_AV) : Bool := (k_cs k).any (ck_rc (k_pr k) (k_pa k) A rv)
/-- the starting values: of an int argument at its local's number, of the followed fields behind 1000 -/
def ck_X0 (pa : List ck_AV) (vs : List Value) (pvv : Nat → Int32) (X : Nat → Int) : Prop := (∀ (n : Nat) (x : Int32), vs[n]? = some (.int x) → X (2 * ck_li pa n) = x.toInt) ∧ ∀ j : Nat, X (2 * (1000 + j)) = (pvv j).toInt
theorem ck_evX {ty : Nat → Option Nat} {pa : List ck_AV} {vs : List Value} {pvv : Nat → Int32} {X : Nat → Int} {av : ck_AV} {v : Value} (h0 : ck_X0 pa vs pvv X) (he : ck_ev av = true) (h : ck_v ty X av v) : ck_v ty (ck_XE pvv) av v := by
  match av, he, h with
  | .inl r, he, h =>
    obtain ⟨x, e, a1, a2, a3⟩ := h
    refine ⟨x, e, a1, a2, fun d hd => ?_⟩
    have h1 := List.all_eq_true.mp he d hd
    simp only [Bool.and_eq_true, decide_eq_true_eq] at h1
    have h2 := h0.2 (d.1 / 2 - 1000)
    have e1 : 2 * (1000 + (d.1 / 2 - 1000)) = d.1 := by omega
    rw [e1] at h2
    have h3 := a3 d hd
    rw [h2] at h3
    exact h3
  | .inr (.inl t), _, h => exact h
  | .inr (.inr u), _, h => exact h
theorem ck_args_at {ty : Nat → Option Nat} : ∀ {pa : List ck_AV} {vs : List Value} {n : Nat} {av : ck_AV}, ck_args ty pa vs → pa[n]? = some av → ∃ v, vs[n]? = some v ∧ ck_v ty (fun _ => 0) av v
  | [], _, n, av, _, h => by simp at h
  | a :: pa, [], n, av, hs, _ => hs.elim
  | a :: pa, v :: vs, 0, av, hs, h => by cases h; exact ⟨v, rfl, hs.1⟩
  | a :: pa, v :: vs, n + 1, av, hs, h => ck_args_at (n := n) hs.2 h
theorem ck_rc_ok {ty : Nat → Option Nat} {X : Nat → Int} {A : ck_AS} {lv : List (Nat × Value)} {pvv pvv' : Nat → Int32} {k : ck_K} {vs : List Value} {rv : Option ck_AV} {r : Option Value} (h0 : ck_X0 (k_pa k) vs pvv X) (hpr : ck_pvo ty (ck_XE pvv) (k_pr k) pvv) (ha : ck_args ty (k_pa k) vs) (hL : ck_L ty X A.1 lv) (hp : ck_pvo ty X A.2.2 pvv') (h : ck_ret k A rv = true) (hr : ∀ b, ck_rvc rv b = true → ck_rv ty b r) : ∃ cs ∈ k_cs k, ck_caseOK ty cs vs pvv pvv' r := by
  obtain ⟨cs, hcs, h1⟩ := List.any_eq_true.mp h
  simp only [ck_rc, Bool.and_eq_true] at h1
  obtain ⟨⟨⟨h1, h2⟩, h3⟩, h4⟩ := h1
  refine ⟨cs, hcs, hr _ h1, fun q hq => ?_, fun j av hj => ?_⟩
  · have h5 := List.all_eq_true.mp h2 q hq
    simp only [Bool.and_eq_true] at h5
    have h6 := h5.1
    unfold ck_isI at h6
    split at h6
    · next r0 hr0 =>
      obtain ⟨v, g1, x, rfl, -⟩ := ck_args_at ha hr0
      have h7 := ck_ent_ok hL h5.2
      rw [h0.1 q.1 x g1] at h7
      exact ⟨x, g1, h7.1, h7.2⟩
    · cases h6
  · exact ck_evX h0 (List.all_eq_true.mp h4 av (List.mem_of_getElem? hj)) (ck_le2_ok (ck_Er_of (pa := k_pa k) (vs := vs) h0.2 hpr) h3 hp j av hj)
def ck_g8 (k : ck_K) (i : Instr) (len : Nat) (A : ck_AS) : Bool := match i, len with
  | .ireturn, 1 => match A.2.1, k_rt k with
    | [(.inl r, _)], some .int => ck_ret k A (some (.inl r))
    | [(.inl r, _)], some .boolean => decide (0 ≤ r.1) && decide (r.2.1 ≤ 1) && ck_ret k A (some (.inl r))
    | _, _ => false
  | .lreturn, 1 => match A.2.1, k_rt k with
    | [(.inr (.inr u), _)], some .long => ck_ret k A (some (.inr (.inr u)))
    | _, _ => false
  | .return_, 1 => match A.2.1, k_rt k with
    | [], none => ck_ret k A none
    | _, _ => false
  | _, _ => false
section CK10
variable {p : Program} {l : Launch} {e : Env} {R : Room} {s : State} {m : MethodId} {args : Array Value} {below : List Frame} {meth : Method} {c : Code} {H H0 : Heap} {locs : List Loc} {Q : State → Prop} {cc : ByteArray} {pc len : Nat} {ls : Array Slot} {st : List Value}
variable {D : va_G} {cys : Nat → ClassId} {ty : Nat → Option Nat} {tg : List ck_TD} {pvT : List (Nat × Nat)} {prot : Nat → List (Nat × Nat)} {Ex : va_W → Prop} {pvv : Nat → Int32} {Ts : List Jvm.Cond} {LK : Nat → Nat → Option ck_En} {o nL : Nat} {X : Nat → Int} {A : ck_AS} {out : List (Nat × ck_AS)} {i : Instr}
variable {tab : Nat → ck_K} {bd : Nat} {k : ck_K} {vs : List Value} {pvv0 : Nat → Int32}
theorem ck_g8_ok (hexec : p.tables.exec = Jvm.exec) (hb : c.code = cc) (hr : meth.sig.returnType = k_rt k) (hlocks : meth.locks = false) (h0 : ck_X0 (k_pa k) vs pvv0 X) (hpr : ck_pvo ty (ck_XE pvv0) (k_pr k) pvv0) (ha : ck_args ty (k_pa k) vs) (h : ck_g8 k i len A = true) (hdg : decode cc pc = .ok (i, len)) (hsat : ck_sat D cys ty tg pvT Ex nL s.heap X A ls st pvv H locs) : W p l e R s m args below meth c H locs 0 0 (MQ below (ck_Qc D cys ty tg pvT Ex k vs pvv0) args s 0 0 (ck_own ty)) (F0 m pc ls st) := by
  obtain ⟨L, S, P⟩ := A
  obtain ⟨lv, h1, h2, h3, h4, h5, h6⟩ := hsat
  have hq : ∀ (rv : Option ck_AV) (r : Option Value), ck_ret k (L, S, P) rv = true → (∀ b, ck_rvc rv b = true → ck_rv ty b r) → ∀ t : State, t.heap = H → s.WarmedH t.vm → ck_Qc D cys ty tg pvT Ex k vs pvv0 args s (.returned r) t := by
    intro rv r hret hrv t ht _
    obtain ⟨cs, g1, g2⟩ := ck_rc_ok (k := k) (A := (L, S, P)) h0 hpr ha h2 h4 hret hrv
    exact ⟨⟨cs, g1, r, pvv, rfl, g2, by rw [ht]; exact h5⟩, h6.F ht⟩
  unfold ck_g8 at h
  split at h
  · split at h
    · next r _ hS hrt =>
      dsimp only at hS
      subst hS
      match st, h3 with
      | [v], h3 =>
        obtain ⟨⟨⟨x, rfl, g2⟩, -⟩, -⟩ := h3
        refine W.zret hexec hb (hr.trans hrt) rfl (hq _ _ h (fun b hb' => ?_)) h6.2.2 hdg hlocks
        match b, hb' with
        | some b, hb' => exact ck_le_ok hb' (ck_nod_ok (av := .inl r) ⟨x, rfl, g2⟩)
      | v :: w :: _, h3 => exact h3.2.elim
    · next r _ hS hrt =>
      dsimp only at hS
      subst hS
      simp only [Bool.and_eq_true, decide_eq_true_eq] at h
      match st, h3 with
      | [v], h3 =>
        obtain ⟨⟨⟨x, rfl, g2⟩, -⟩, -⟩ := h3
        have b1 := g2.1
        have b2 := g2.2.1
        refine W.zret hexec hb (hr.trans hrt) (ck_nbool ⟨by omega, by omega⟩).1 (hq _ _ h.2 (fun b hb' => ?_)) h6.2.2 hdg hlocks
        match b, hb' with
        | some b, hb' => exact ck_le_ok hb' (ck_nod_ok (av := .inl r) ⟨x, rfl, g2⟩)
      | v :: w :: _, h3 => exact h3.2.elim
    · cases h
  · split at h
    · next u _ hS hrt =>
      dsimp only at hS
      subst hS
      match st, h3 with
      | [v], h3 =>
        obtain ⟨⟨⟨x, rfl⟩, -⟩, -⟩ := h3
        refine W.lret hexec hb (hr.trans hrt) (hq _ _ h (fun b hb' => ?_)) h6.2.2 hdg hlocks
        match b, hb' with
        | some b, hb' => exact ck_le_ok hb' (ck_nod_ok (X := X) (av := .inr (.inr u)) ⟨x, rfl⟩)
      | v :: w :: _, h3 => exact h3.2.elim
    · cases h
  · split at h
    · next hS hrt =>
      dsimp only at hS
      subst hS
      match st, h3 with
      | [], h3 =>
        refine W.vret hexec hb (hr.trans hrt) (hq _ _ h (fun b hb' => ?_)) h6.2.2 hdg hlocks
        match b, hb' with
        | none, _ => exact True.intro
      | v :: _, h3 => exact h3.elim
    · cases h
  · cases h
/-- one step -/
def ck_step (tg : List ck_TD) (pvT : List (Nat × Nat)) (prot : Nat → List (Nat × Nat)) (LK : Nat → Nat → Option ck_En) (tab : Nat → ck_K) (bd : Nat) (k : ck_K) (pc : Nat) (i : Instr) (len : Nat) (A : ck_AS) : Option (List (Nat × ck_AS)) :=
  match ck_g2 (k_ml k) pc i len A with
  | some o => some o
  | none => match ck_g6 tg pvT prot LK (k_ow k) pc i len A with
  | some o => some o
  | none => match ck_g1 LK (k_ow k) pc i len A with
  | some o => some o
  | none => match ck_g3 pc i len A with
  | some o => some o
  | none => match ck_g5 pc i len A with
  | some o => some o
  | none => match ck_g7 tg pvT prot LK tab bd k pc i len A with
  | some o => some o
  | none => if ck_g8 k i len A then some [] else none
/-- all that a method's walk takes as given -/
def ck_Ctx (l : Launch) (D : va_G) (cys : Nat → ClassId) (ty : Nat → Option Nat) (tg : List ck_TD) (pvT : List (Nat × Nat)) (prot : Nat → List (Nat × Nat)) (Ex : va_W → Prop) (LK : Nat → Nat → Option ck_En) (tab : Nat → ck_K) (bd : Nat) : Prop :=
  ck_LKc LK ∧ ck_LKf LK ∧ ck_LKm tg LK tab ∧ ck_ExP ty prot Ex ∧ ck_uq ty pvT ∧ (∀ (i j : Nat) (q : Nat × Nat), pvT[i]? = some q → pvT[j]? = some q → i = j) ∧ ∀ j, j < bd → ck_Holds l D cys ty tg pvT Ex (tab j)
def ck_At (p : Program) (s : State) (m : MethodId) (args : Array Value) (meth : Method) (c : Code) (D : va_G) (cys : Nat → ClassId) (k : ck_K) : Prop :=
  p.tables.exec = Jvm.exec ∧ c.code = k_cc k ∧ c.maxLocals = k_ml k ∧ meth.sig.returnType = k_rt k ∧ meth.locks = false ∧ (∀ w ∈ ck_ws k, w.before args s = true) ∧ s.vm.findClass (ck_R (k_ow k)) = some m.cls ∧ va_K D ck_cl (ck_tys cys) s ∧ (∀ w ∈ ck_nest, va_Nw w s)
theorem ck_step_ok (C : ck_Ctx l D cys ty tg pvT prot Ex LK tab bd) (B : ck_At p s m args meth c D cys k) (hR : R = ck_rm k) (h0 : ck_X0 (k_pa k) vs pvv0 X) (hpr : ck_pvo ty (ck_XE pvv0) (k_pr k) pvv0) (ha : ck_args ty (k_pa k) vs) (h : ck_step tg pvT prot LK tab bd k pc i len A = some out) (hdg : decode (k_cc k) pc = .ok (i, len)) (hsat : ck_sat D cys ty tg pvT Ex (k_ml k) s.heap X A ls st pvv H locs)
    (hn : ∀ q ∈ out, ∀ (ls' : Array Slot) (st' : List Value) (pvv' : Nat → Int32) (H' : Heap) (locs' : List Loc), ck_sat D cys ty tg pvT Ex (k_ml k) s.heap X q.2 ls' st' pvv' H' locs' → W p l e R s m args below meth c H' locs' 0 0 (MQ below (ck_Qc D cys ty tg pvT Ex k vs pvv0) args s 0 0 (ck_own ty)) (F0 m q.1 ls' st')) : W p l e R s m args below meth c H locs 0 0 (MQ below (ck_Qc D cys ty tg pvT Ex k vs pvv0) args s 0 0 (ck_own ty)) (F0 m pc ls st) := by
  obtain ⟨C1, C2, C3, C4, C5, C6, C7⟩ := C
  obtain ⟨B1, B2, B3, B4, B5, B6, B7, B8, B9⟩ := B
  have hin : ∀ w ∈ wsL_law0, w ∈ ck_ws k := fun w hw => List.mem_cons_of_mem _ hw
  unfold ck_step at h
  split at h
  · next o1 hg => cases h; exact ck_g2_ok B1 B2 hg hdg hsat hn
  · split at h
    · next o1 hg => cases h; exact ck_g6_ok C2 B1 B2 B6 hin B7 B8 C4 C5 C6 hg hdg hsat hn
    · split at h
      · next o1 hg => cases h; exact ck_g1_ok C1 B1 B2 B6 hin B7 hg hdg hsat hn
      · split at h
        · next o1 hg => cases h; exact ck_g3_ok B1 B2 hg hdg hsat hn
        · split at h
          · next o1 hg => cases h; exact ck_g5_ok B1 B2 hg hdg hsat hn
          · split at h
            · next o1 hg => cases h; exact ck_g7_ok C3 C7 B1 B2 B3 B6 hin B7 B8 B9 C4 (by rw [hR]; rfl) (by rw [hR]; rfl) hg hdg hsat hn
            · split at h
              · next hg => cases h; exact ck_g8_ok B1 B2 B4 B5 h0 hpr ha hg hdg hsat
              · cases h
end CK10
end
section
/-! THE CHECKER, 10: the whole of a method: states at places with what falls from one to the next; what a clean check means. -/
def ck_lval (ls : Array Slot) (n : Nat) : Int := match ls[n]? with
  | some (.val (.int x)) => x.toInt
  | _ => 0
def ck_val (ls : Array Slot) (pvv : Nat → Int32) (v : Nat) : Int := if v < 1000 then ck_lval ls v else (pvv (v - 1000)).toInt
/-- the starting values at a place: odd names anew, even ones stay -/
def ck_Xn (X : Nat → Int) (ls : Array Slot) (pvv : Nat → Int32) : Nat → Int := fun n => if n % 2 = 0 then X n else ck_val ls pvv (n / 2)
def ck_addc (av : ck_AV) (v : Nat) : ck_AV := match av with
  | .inl r => .inl (r.1, r.2.1, (v, 0, 0) :: r.2.2)
  | x => x
def ck_addP : List ck_AV → Nat → List ck_AV
  | [], _ => []
  | a :: r, n => ck_addc a n :: ck_addP r (n + 2)
def ck_res (A : ck_AS) : ck_AS := (A.1.map (fun q => (q.1, ck_addc q.2 (2 * q.1 + 1))), A.2.1, ck_addP A.2.2 2001)
def ck_evn (av : ck_AV) : Bool := match av with
  | .inl r => r.2.2.all (fun d => decide (d.1 % 2 = 0))
  | _ => true
theorem ck_evn_ok {ty : Nat → Option Nat} {X Y : Nat → Int} {av : ck_AV} {v : Value} (he : ck_evn av = true) (hXY : ∀ n, n % 2 = 0 → Y n = X n) (h : ck_v ty X av v) : ck_v ty Y av v := by
  match av, he, h with
  | .inl r, he, h =>
    obtain ⟨x, e, a1, a2, a3⟩ := h
    refine ⟨x, e, a1, a2, fun d hd => ?_⟩
    have h1 := of_decide_eq_true (List.all_eq_true.mp he d hd)
    rw [hXY d.1 h1]
    exact a3 d hd
  | .inr (.inl t), _, h => exact h
  | .inr (.inr u), _, h => exact h
theorem ck_addc_ok {ty : Nat → Option Nat} {X : Nat → Int} {av : ck_AV} {v : Value} {n : Nat} (h : ck_v ty X av v) (hx : ∀ x : Int32, v = .int x → X n = x.toInt) : ck_v ty X (ck_addc av n) v := by
  match av, h with
  | .inl r, h =>
    obtain ⟨x, e, a1, a2, a3⟩ := h
    refine ⟨x, e, a1, a2, fun d hd => ?_⟩
    rcases List.mem_cons.mp hd with hd | hd
    · subst hd
      have := hx x e
      dsimp only
      omega
    · exact a3 d hd
  | .inr (.inl t), h => exact h
  | .inr (.inr u), h => exact h
theorem ck_addP_ok {ty : Nat → Option Nat} {X : Nat → Int} : ∀ {P : List ck_AV} {n : Nat} {f : Nat → Int32}, ck_pvo ty X P f → (∀ j : Nat, X (n + 2 * j) = (f j).toInt) → ck_pvo ty X (ck_addP P n) f
  | [], n, f, _, _ => fun j av h => by simp [ck_addP] at h
  | a :: P, n, f, h, hx => by
    intro j av hj
    match j, hj with
    | 0, hj =>
      cases hj
      exact ck_addc_ok (h 0 a rfl) (fun x e => by cases e; exact hx 0)
    | j + 1, hj =>
      refine ck_addP_ok (n := n + 2) (f := fun j => f (j + 1)) (fun i bv hi => h (i + 1) bv hi) (fun i => ?_) j av hj
      have := hx (i + 1)
      rw [show n + 2 * (i + 1) = n + 2 + 2 * i by omega] at this
      exact this
def ck_avOf (A : ck_AS) (v : Nat) : Option ck_I := if v < 1000 then (match ck_load A.1 v with
  | some (.inl r) => some r
  | _ => none) else (match A.2.2[v - 1000]? with
  | some (.inl r) => some r
  | _ => none)
/-- a bound of a place's state: by an even name as it stands; by an odd one: against what another holds there now -/
def ck_dlN (E : List ck_AV) (A : ck_AS) (r : ck_I) (d : Nat × Int × Int) : Bool := if d.1 % 2 = 0 then ck_dlE E r d else (match ck_avOf A (d.1 / 2) with
  | some z => (decide (d.2.1 ≤ r.1 - z.2.1) || r.2.2.any (fun q => z.2.2.any (fun g => q.1 == g.1 && decide (d.2.1 ≤ q.2.1 - g.2.2)))) && (decide (r.2.1 - z.1 ≤ d.2.2) || r.2.2.any (fun q => z.2.2.any (fun g => q.1 == g.1 && decide (q.2.2 - g.2.1 ≤ d.2.2))))
  | none => false)
def ck_leN (E : List ck_AV) (A : ck_AS) (a b : ck_AV) : Bool := match a, b with
  | .inl r, .inl q => decide (q.1 ≤ r.1) && decide (r.2.1 ≤ q.2.1) && q.2.2.all (ck_dlN E A r)
  | .inr (.inl t), .inr (.inl u) => t == u
  | .inr (.inr _), .inr (.inr _) => true
  | _, _ => false
theorem ck_leN_ok {ty : Nat → Option Nat} {X Y : Nat → Int} {E : List ck_AV} {A : ck_AS} {g : Nat → Int} (hEr : ck_Er E X) (hE : ∀ n, n % 2 = 0 → Y n = X n) (hO : ∀ v, Y (2 * v + 1) = g v) (hA : ∀ v r, ck_avOf A v = some r → ck_i X r (g v)) {a b : ck_AV} {v : Value} (h : ck_leN E A a b = true) (hv : ck_v ty X a v) : ck_v ty Y b v := by
  match a, b, h, hv with
  | .inl r, .inl q, h, hv =>
    obtain ⟨x, rfl, h1, h2, h3⟩ := hv
    simp only [ck_leN, Bool.and_eq_true, decide_eq_true_eq, List.all_eq_true] at h
    refine ⟨x, rfl, by omega, by omega, fun d hd => ?_⟩
    have h4 := h.2 d hd
    unfold ck_dlN at h4
    split at h4
    · next e =>
      rw [hE _ e]
      exact ck_dlE_ok hEr h4 ⟨h1, h2, h3⟩
    · next e =>
      split at h4
      · next z hz =>
        have h5 := hA _ _ hz
        have e2 : d.1 = 2 * (d.1 / 2) + 1 := by omega
        have e3 := hO (d.1 / 2)
        rw [← e2] at e3
        rw [e3]
        obtain ⟨z1, z2, z3⟩ := h5
        simp only [Bool.and_eq_true, Bool.or_eq_true, decide_eq_true_eq, List.any_eq_true, beq_iff_eq] at h4
        obtain ⟨c1, c2⟩ := h4
        refine ⟨?_, ?_⟩
        · rcases c1 with c1 | ⟨q1, m1, g1, m2, e1, c1⟩
          · omega
          · have k1 := h3 q1 m1
            have k2 := z3 g1 m2
            rw [e1] at k1
            omega
        · rcases c2 with c2 | ⟨q1, m1, g1, m2, e1, c2⟩
          · omega
          · have k1 := h3 q1 m1
            have k2 := z3 g1 m2
            rw [e1] at k1
            omega
      · cases h4
  | .inr (.inl t), .inr (.inl u), h, hv =>
    obtain ⟨y, rfl, h1⟩ := hv
    simp only [ck_leN, beq_iff_eq] at h
    exact ⟨y, rfl, by rw [← h]; exact h1⟩
  | .inr (.inr _), .inr (.inr _), _, hv => exact hv
def ck_leS (E : List ck_AV) (A : ck_AS) : List (ck_AV × Nat) → List (ck_AV × Nat) → Bool
  | [], [] => true
  | a :: S, b :: T => ck_leN E A a.1 b.1 && decide (b.2 = 0) && ck_leS E A S T
  | _, _ => false
theorem ck_leS_ok {ty : Nat → Option Nat} {X Y : Nat → Int} {E : List ck_AV} {A : ck_AS} {g : Nat → Int} (hEr : ck_Er E X) (hE : ∀ n, n % 2 = 0 → Y n = X n) (hO : ∀ v, Y (2 * v + 1) = g v) (hA : ∀ v r, ck_avOf A v = some r → ck_i X r (g v)) {lv lv' : List (Nat × Value)} {pvv : Nat → Int32} : ∀ {S T : List (ck_AV × Nat)} {st : List Value}, ck_leS E A S T = true → ck_st ty X lv pvv S st → ck_st ty Y lv' pvv T st
  | [], [], [], _, _ => True.intro
  | a :: S, b :: T, v :: st, h, hs => by
    simp only [ck_leS, Bool.and_eq_true, decide_eq_true_eq] at h
    refine ⟨⟨ck_leN_ok hEr hE hO hA h.1.1 hs.1.1, ?_⟩, ck_leS_ok hEr hE hO hA h.2 hs.2⟩
    rw [h.1.2]
    exact ck_src0
  | [], _ :: _, _, h, _ => by cases h
  | _ :: _, [], _, h, _ => by cases h
  | [], [], _ :: _, _, hs => hs.elim
  | _ :: _, _ :: _, [], _, hs => hs.elim
def ck_leL (E : List ck_AV) (A : ck_AS) (B : List (Nat × ck_AV)) : Bool := B.all (fun q => match ck_load A.1 q.1 with
  | some av => ck_leN E A av q.2
  | none => false)
theorem ck_leL_ok {ty : Nat → Option Nat} {X Y : Nat → Int} {E : List ck_AV} {A : ck_AS} {g : Nat → Int} (hEr : ck_Er E X) (hE : ∀ n, n % 2 = 0 → Y n = X n) (hO : ∀ v, Y (2 * v + 1) = g v) (hA : ∀ v r, ck_avOf A v = some r → ck_i X r (g v)) {lv : List (Nat × Value)} {ls : Array Slot} {nL : Nat} (hl : lv_has ls nL lv) (hL : ck_L ty X A.1 lv) : ∀ {B : List (Nat × ck_AV)}, ck_leL E A B = true → ∃ lv', lv_has ls nL lv' ∧ ck_L ty Y B lv'
  | [], _ => ⟨[], ⟨hl.1, hl.2.1, fun q h => nomatch h⟩, True.intro⟩
  | q :: B, h => by
    simp only [ck_leL, List.all_cons, Bool.and_eq_true] at h
    obtain ⟨lv', g1, g2⟩ := ck_leL_ok hEr hE hO hA hl hL (B := B) h.2
    have h1 := h.1
    split at h1
    · next av hav =>
      obtain ⟨v, k1, k2⟩ := ck_load_ok hL hav
      refine ⟨(q.1, v) :: lv', ⟨hl.1, hl.2.1, fun r hr => ?_⟩, ⟨rfl, ck_leN_ok hEr hE hO hA h1 k2⟩, g2⟩
      rcases List.mem_cons.mp hr with hr | hr
      · subst hr; exact hl.2.2 _ k1
      · exact g1.2.2 r hr
    · cases h1
def ck_leP (E : List ck_AV) (A : ck_AS) : List ck_AV → List ck_AV → Bool
  | _, [] => true
  | a :: P, b :: pr => ck_leN E A a b && ck_leP E A P pr
  | [], _ :: _ => false
theorem ck_leP_ok {ty : Nat → Option Nat} {X Y : Nat → Int} {E : List ck_AV} {A : ck_AS} {g : Nat → Int} (hEr : ck_Er E X) (hE : ∀ n, n % 2 = 0 → Y n = X n) (hO : ∀ v, Y (2 * v + 1) = g v) (hA : ∀ v r, ck_avOf A v = some r → ck_i X r (g v)) : ∀ {P pr : List ck_AV} {f : Nat → Int32}, ck_leP E A P pr = true → ck_pvo ty X P f → ck_pvo ty Y pr f
  | _, [], f, _, _ => fun j av h => by simp at h
  | a :: P, b :: pr, f, h, hp => by
    simp only [ck_leP, Bool.and_eq_true] at h
    intro j av hj
    match j, hj with
    | 0, hj => cases hj; exact ck_leN_ok hEr hE hO hA h.1 (hp 0 a rfl)
    | j + 1, hj => exact ck_leP_ok hEr hE hO hA (f := fun j => f (j + 1)) h.2 (fun i bv hi => hp (i + 1) bv hi) j av hj
  | [], _ :: _, f, h, _ => by cases h
def ck_annOK (A : ck_AS) : Bool := A.1.all (fun q => decide (q.1 < 1000))
theorem ck_resL {ty : Nat → Option Nat} {X : Nat → Int} {ls : Array Slot} {nL : Nat} {pvv : Nat → Int32} (hO : ∀ v, X (2 * v + 1) = ck_val ls pvv v) : ∀ {B : List (Nat × ck_AV)} {lv : List (Nat × Value)}, lv_has ls nL lv → B.all (fun q => decide (q.1 < 1000)) = true → ck_L ty X B lv → ck_L ty X (B.map (fun q => (q.1, ck_addc q.2 (2 * q.1 + 1)))) lv
  | [], [], _, _, _ => True.intro
  | q :: B, r :: lv, hl, he, hL => by
    simp only [List.all_cons, Bool.and_eq_true, decide_eq_true_eq] at he
    refine ⟨⟨hL.1.1, ?_⟩, ck_resL hO ⟨hl.1, hl.2.1, fun z hz => hl.2.2 z (List.mem_cons_of_mem _ hz)⟩ he.2 hL.2⟩
    refine ck_addc_ok hL.1.2 (fun x e => ?_)
    have h1 := hl.2.2 r List.mem_cons_self
    rw [e, ← hL.1.1] at h1
    rw [hO]
    unfold ck_val ck_lval
    rw [if_pos he.1, h1]
/-! what falls -/
def ck_rkv (f : Nat → Int) : List (Nat × Int) → Int
  | [] => 0
  | q :: r => q.2 * f q.1 + ck_rkv f r
def ck_ubs (A : ck_AS) : List (Nat × Int) → Option Int
  | [] => some 0
  | q :: r => match ck_avOf A q.1, ck_ubs A r with
    | some z, some u => some (max (q.2 * z.1) (q.2 * z.2.1) + u)
    | _, _ => none
def ck_lbs (A : ck_AS) : List (Nat × Int) → Option Int
  | [] => some 0
  | q :: r => match ck_avOf A q.1, ck_lbs A r with
    | some z, some u => some (min (q.2 * z.1) (q.2 * z.2.1) + u)
    | _, _ => none
def ck_dd2 (B A : ck_AS) (rs rt : List (Nat × Int)) : Option Int := match ck_ubs A rt, ck_lbs B rs with
  | some u, some w => some (u - w)
  | _, _ => none
def ck_dd (B A : ck_AS) : List (Nat × Int) → List (Nat × Int) → Option Int
  | q :: rs, r :: rt => if q = r then (match ck_avOf A q.1 with
      | some z => (match z.2.2.find? (fun d => d.1 == 2 * q.1 + 1), ck_dd B A rs rt with
          | some d, some u => some (max (q.2 * d.2.1) (q.2 * d.2.2) + u)
          | _, _ => ck_dd2 B A (q :: rs) (r :: rt))
      | none => none) else ck_dd2 B A (q :: rs) (r :: rt)
  | rs, rt => ck_dd2 B A rs rt
theorem ck_ubs_ok {A : ck_AS} {f : Nat → Int} (hA : ∀ v r, ck_avOf A v = some r → r.1 ≤ f v ∧ f v ≤ r.2.1) : ∀ {rt : List (Nat × Int)} {u : Int}, ck_ubs A rt = some u → ck_rkv f rt ≤ u
  | [], u, h => by cases h; exact Int.le_refl _
  | q :: r, u, h => by
    unfold ck_ubs at h
    split at h
    · next z w hz hw =>
      cases h
      have h1 := ck_ubs_ok hA hw
      have h2 := ck_mb (c := q.2) (hA _ _ hz).1 (hA _ _ hz).2
      unfold ck_rkv
      omega
    · cases h
theorem ck_lbs_ok {A : ck_AS} {f : Nat → Int} (hA : ∀ v r, ck_avOf A v = some r → r.1 ≤ f v ∧ f v ≤ r.2.1) : ∀ {rt : List (Nat × Int)} {u : Int}, ck_lbs A rt = some u → u ≤ ck_rkv f rt
  | [], u, h => by cases h; exact Int.le_refl _
  | q :: r, u, h => by
    unfold ck_lbs at h
    split at h
    · next z w hz hw =>
      cases h
      have h1 := ck_lbs_ok hA hw
      have h2 := ck_mb (c := q.2) (hA _ _ hz).1 (hA _ _ hz).2
      unfold ck_rkv
      omega
    · cases h
theorem ck_dd2_ok {B A : ck_AS} {f g : Nat → Int} (hB : ∀ v r, ck_avOf B v = some r → r.1 ≤ f v ∧ f v ≤ r.2.1) (hA : ∀ v r, ck_avOf A v = some r → r.1 ≤ g v ∧ g v ≤ r.2.1) {rs rt : List (Nat × Int)} {u : Int} (h : ck_dd2 B A rs rt = some u) : ck_rkv g rt - ck_rkv f rs ≤ u := by
  unfold ck_dd2 at h
  split at h
  · next a b ha hb =>
    cases h
    have h1 := ck_ubs_ok hA ha
    have h2 := ck_lbs_ok hB hb
    omega
  · cases h
theorem ck_dd_ok {B A : ck_AS} {f g : Nat → Int} (hB : ∀ v r, ck_avOf B v = some r → r.1 ≤ f v ∧ f v ≤ r.2.1) (hA : ∀ v r, ck_avOf A v = some r → (r.1 ≤ g v ∧ g v ≤ r.2.1) ∧ ∀ d ∈ r.2.2, d.1 = 2 * v + 1 → d.2.1 ≤ g v - f v ∧ g v - f v ≤ d.2.2) : ∀ {rs rt : List (Nat × Int)} {u : Int}, ck_dd B A rs rt = some u → ck_rkv g rt - ck_rkv f rs ≤ u
  | [], rt, u, h => ck_dd2_ok hB (fun v r hv => (hA v r hv).1) (by cases rt <;> exact h)
  | q :: rs, [], u, h => ck_dd2_ok hB (fun v r hv => (hA v r hv).1) h
  | q :: rs, r :: rt, u, h => by
    unfold ck_dd at h
    split at h
    · next e =>
      subst e
      split at h
      · next z hz =>
        split at h
        · next d w hd hw =>
          cases h
          have h1 := ck_dd_ok hB hA hw
          have h2 := List.find?_some hd
          have h3 := (hA _ _ hz).2 d (List.mem_of_find?_eq_some hd) (by simpa using h2)
          have h4 := ck_mb (c := q.2) h3.1 h3.2
          unfold ck_rkv
          have h5 : q.2 * (g q.1 - f q.1) = q.2 * g q.1 - q.2 * f q.1 := Int.mul_sub _ _ _
          omega
        · exact ck_dd2_ok hB (fun v r hv => (hA v r hv).1) h
      · cases h
    · exact ck_dd2_ok hB (fun v r hv => (hA v r hv).1) h
def ck_dec (rs : ck_Rk) (B A : ck_AS) (rt : ck_Rk) : Bool := match ck_dd B A rs.2 rt.2 with
  | some u => decide (rt.1 - rs.1 + u ≤ -1)
  | none => false
def ck_run (tg : List ck_TD) (pvT : List (Nat × Nat)) (prot : Nat → List (Nat × Nat)) (LK : Nat → Nat → Option ck_En) (tab : Nat → ck_K) (bd : Nat) (k : ck_K) (rs : ck_Rk) (B : ck_AS) : Nat → Nat → ck_AS → Bool
  | 0, _, _ => false
  | n + 1, pc, A => (k_an k).any (fun a => decide (a.1 = pc) && ck_leL (k_pr k) A a.2.1.1 && ck_leS (k_pr k) A A.2.1 a.2.1.2.1 && ck_leP (k_pr k) A A.2.2 a.2.1.2.2 && ck_dec rs B A a.2.2) || (match decode (k_cc k) pc with
      | .ok (i, len) => match ck_step tg pvT prot LK tab bd k pc i len A with
        | some o => o.all (fun q => ck_run tg pvT prot LK tab bd k rs B n q.1 q.2)
        | none => false
      | _ => false)
def ck_entL : List ck_AV → Nat → List (Nat × ck_AV)
  | [], _ => []
  | a :: r, n => (n, ck_addc a (2 * n)) :: ck_entL r (n + ck_cat a)
def ck_entry (k : ck_K) : ck_AS := (ck_entL (k_pa k) 0, [], ck_addP (k_pr k) 2000)
def ck_top : ck_Rk := (1000000000000, [])
def ck_one (tg : List ck_TD) (pvT : List (Nat × Nat)) (prot : Nat → List (Nat × Nat)) (LK : Nat → Nat → Option ck_En) (tab : Nat → ck_K) (bd : Nat) (k : ck_K) (fuel : Nat) (a : ck_An) : Bool := ck_annOK a.2.1 && (match ck_lbs a.2.1 a.2.2.2 with
    | some u => decide (0 ≤ a.2.2.1 + u)
    | none => false) && (match decode (k_cc k) a.1 with
      | .ok (i, len) => match ck_step tg pvT prot LK tab bd k a.1 i len (ck_res a.2.1) with
        | some o => o.all (fun q => ck_run tg pvT prot LK tab bd k a.2.2 (ck_res a.2.1) fuel q.1 q.2)
        | none => false
      | _ => false)
def ck_check (tg : List ck_TD) (pvT : List (Nat × Nat)) (prot : Nat → List (Nat × Nat)) (LK : Nat → Nat → Option ck_En) (tab : Nat → ck_K) (bd : Nat) (k : ck_K) (fuel : Nat) : Bool :=
  decide (((k_pa k).map ck_cat).sum ≤ k_ml k) && decide (k_ml k < 900) && (k_pa k).all (fun a => ck_le (ck_nod a) a) && (k_pr k).all ck_ev && ck_run tg pvT prot LK tab bd k ck_top ([], [], []) fuel 0 (ck_entry k) && (k_an k).all (ck_one tg pvT prot LK tab bd k fuel)
section CK11
variable {p : Program} {l : Launch} {e : Env} {R : Room} {s : State} {m : MethodId} {args : Array Value} {below : List Frame} {meth : Method} {c : Code} {H H0 : Heap} {locs : List Loc} {Q : State → Prop} {cc : ByteArray} {pc len : Nat} {ls : Array Slot} {st : List Value}
variable {D : va_G} {cys : Nat → ClassId} {ty : Nat → Option Nat} {tg : List ck_TD} {pvT : List (Nat × Nat)} {prot : Nat → List (Nat × Nat)} {Ex : va_W → Prop} {pvv : Nat → Int32} {Ts : List Jvm.Cond} {LK : Nat → Nat → Option ck_En} {o nL : Nat} {X : Nat → Int} {A : ck_AS} {out : List (Nat × ck_AS)} {i : Instr}
variable {tab : Nat → ck_K} {bd : Nat} {k : ck_K} {vs : List Value} {pvv0 : Nat → Int32}
theorem ck_avOf_ok (hsat : ck_sat D cys ty tg pvT Ex nL H0 X A ls st pvv H locs) {v : Nat} {r : ck_I} (h : ck_avOf A v = some r) : ck_i X r (ck_val ls pvv v) := by
  obtain ⟨lv, h1, h2, h3, h4, h5, h6⟩ := hsat
  unfold ck_avOf at h
  split at h
  · next hv =>
    split at h
    · next q hq =>
      cases h
      obtain ⟨w, g1, x, rfl, g2⟩ := ck_load_ok h2 hq
      have h7 := h1.2.2 _ g1
      dsimp only at h7
      unfold ck_val ck_lval
      rw [if_pos hv, h7]
      exact g2
    · cases h
  · next hv =>
    split at h
    · next q hq =>
      cases h
      obtain ⟨x, e, g2⟩ := h4 _ _ hq
      cases e
      unfold ck_val
      rw [if_neg hv]
      exact g2
    · cases h
/-- a state at a place, and what holds there -/
theorem ck_run_ok (C : ck_Ctx l D cys ty tg pvT prot Ex LK tab bd) (B : ck_At p s m args meth c D cys k) (hR : R = ck_rm k) (h0 : ck_X0 (k_pa k) vs pvv0 X) (hpr : ck_pvo ty (ck_XE pvv0) (k_pr k) pvv0) (ha : ck_args ty (k_pa k) vs) {rs : ck_Rk} {Bs : ck_AS} {f : Nat → Int} {nn : Nat} (hf : ∀ v, X (2 * v + 1) = f v) (hBs : ∀ v r, ck_avOf Bs v = some r → r.1 ≤ f v ∧ f v ≤ r.2.1) (hrk : rs.1 + ck_rkv f rs.2 ≤ nn)
    (IH : ∀ (a : ck_An), a ∈ k_an k → ∀ (Y : Nat → Int) (ls' : Array Slot) (st' : List Value) (pvv' : Nat → Int32) (H' : Heap) (locs' : List Loc), ck_X0 (k_pa k) vs pvv0 Y → (∀ v, Y (2 * v + 1) = ck_val ls' pvv' v) → ck_sat D cys ty tg pvT Ex (k_ml k) s.heap Y a.2.1 ls' st' pvv' H' locs' → a.2.2.1 + ck_rkv (ck_val ls' pvv') a.2.2.2 < nn → W p l e R s m args below meth c H' locs' 0 0 (MQ below (ck_Qc D cys ty tg pvT Ex k vs pvv0) args s 0 0 (ck_own ty)) (F0 m a.1 ls' st')) :
    ∀ {fuel pc : Nat} {A : ck_AS} {ls : Array Slot} {st : List Value} {pvv : Nat → Int32} {H : Heap} {locs : List Loc}, ck_run tg pvT prot LK tab bd k rs Bs fuel pc A = true → ck_sat D cys ty tg pvT Ex (k_ml k) s.heap X A ls st pvv H locs → W p l e R s m args below meth c H locs 0 0 (MQ below (ck_Qc D cys ty tg pvT Ex k vs pvv0) args s 0 0 (ck_own ty)) (F0 m pc ls st)
  | 0, pc, A, ls, st, pvv, H, locs, h, hsat => by cases h
  | n + 1, pc, A, ls, st, pvv, H, locs, h, hsat => by
    have hstep : (match decode (k_cc k) pc with
      | .ok (i, len) => match ck_step tg pvT prot LK tab bd k pc i len A with
        | some o => o.all (fun q => ck_run tg pvT prot LK tab bd k rs Bs n q.1 q.2)
        | none => false
      | _ => false) = true → W p l e R s m args below meth c H locs 0 0 (MQ below (ck_Qc D cys ty tg pvT Ex k vs pvv0) args s 0 0 (ck_own ty)) (F0 m pc ls st) := by
      intro h
      split at h
      · next i len hd =>
        split at h
        · next o ho =>
          refine ck_step_ok C B hR h0 hpr ha ho hd hsat (fun q hq ls' st' pvv' H' locs' hs' => ?_)
          exact ck_run_ok C B hR h0 hpr ha hf hBs hrk IH (List.all_eq_true.mp h q hq) hs'
        · cases h
      · cases h
    unfold ck_run at h
    refine (Bool.or_eq_true _ _ ▸ h : _ ∨ _).elim (fun h => ?_) hstep
    · obtain ⟨q, hq, h⟩ := List.any_eq_true.mp h
      simp only [Bool.and_eq_true, decide_eq_true_eq] at h
      obtain ⟨⟨⟨⟨c0, c1⟩, c2⟩, c3⟩, c4⟩ := h
      subst c0
      unfold ck_dec at c4
      split at c4
      · next u hu =>
        have c4 := of_decide_eq_true c4
        have h7 := ck_dd_ok (f := f) (g := ck_val ls pvv) hBs (fun v r hv => ⟨⟨(ck_avOf_ok hsat hv).1, (ck_avOf_ok hsat hv).2.1⟩, fun d hd e => by
          have := (ck_avOf_ok hsat hv).2.2 d hd
          rw [e, hf v] at this
          exact this⟩) hu
        have hE : ∀ n, n % 2 = 0 → ck_Xn X ls pvv n = X n := fun n hn => by simp [ck_Xn, hn]
        have hO : ∀ v, ck_Xn X ls pvv (2 * v + 1) = ck_val ls pvv v := fun v => by
          unfold ck_Xn
          rw [if_neg (by omega), show (2 * v + 1) / 2 = v by omega]
        have hA : ∀ v r, ck_avOf A v = some r → ck_i X r (ck_val ls pvv v) := fun v r hv => ck_avOf_ok hsat hv
        have hEr : ck_Er (k_pr k) X := ck_Er_of (pa := k_pa k) (vs := vs) h0.2 hpr
        obtain ⟨lv, h1, h2, h3, h4, h5, h6⟩ := hsat
        obtain ⟨lv', g1, g2⟩ := ck_leL_ok hEr hE hO hA h1 h2 c1
        have h0' : ck_X0 (k_pa k) vs pvv0 (ck_Xn X ls pvv) := ⟨fun i x hx => by rw [hE _ (by omega)]; exact h0.1 i x hx, fun j => by rw [hE _ (by omega)]; exact h0.2 j⟩
        exact IH q hq (ck_Xn X ls pvv) ls st pvv H locs h0' hO ⟨lv', g1, g2, ck_leS_ok hEr hE hO hA c2 h3, ck_leP_ok hEr hE hO hA c3 h4, h5, h6⟩ (by omega)
      · cases c4
end CK11
end
section
/-! THE CHECKER, 11: a clean check is a contract. -/
theorem ck_args_in {ty : Nat → Option Nat} : ∀ {pa : List ck_AV} {vs : List Value} {n i : Nat} {v : Value}, ck_args ty pa vs → vs[n]? = some v → (i + ck_li pa n, v) ∈ lv_args i vs
  | [], [], n, i, v, _, h => by simp at h
  | a :: pa, w :: vs, 0, i, v, ha, h => by
    cases h
    exact List.mem_cons_self
  | a :: pa, w :: vs, n + 1, i, v, ha, h => by
    have ih := ck_args_in (i := if w.category = 2 then i + 2 else i + 1) ha.2 (n := n) h
    have e : i + ck_li (a :: pa) (n + 1) = (if w.category = 2 then i + 2 else i + 1) + ck_li pa n := by
      have h1 := ck_v_cat ha.1
      have h2 : ck_cat a = 1 ∨ ck_cat a = 2 := by
        match a with
        | .inl _ => exact Or.inl rfl
        | .inr (.inl _) => exact Or.inl rfl
        | .inr (.inr _) => exact Or.inr rfl
      simp only [ck_li, List.take_succ_cons, List.map_cons, List.sum_cons]
      rw [h1]
      rcases h2 with h2 | h2 <;> rw [h2] <;> simp <;> omega
    rw [e]
    exact List.mem_cons_of_mem _ ih
  | [], _ :: _, _, _, _, ha, _ => ha.elim
  | _ :: _, [], _, _, _, ha, _ => ha.elim
theorem ck_sl_len {ty : Nat → Option Nat} : ∀ {pa : List ck_AV} {vs : List Value}, ck_args ty pa vs → (lg_sl vs).length = (pa.map ck_cat).sum
  | [], [], _ => rfl
  | a :: pa, v :: vs, h => by
    have ih := ck_sl_len h.2
    have h1 := ck_v_cat h.1
    simp only [lg_sl, List.flatMap_cons, List.length_append, List.map_cons, List.sum_cons] at ih ⊢
    rw [ih, h1]
    have h2 : ck_cat a = 1 ∨ ck_cat a = 2 := by
      match a with
      | .inl _ => exact Or.inl rfl
      | .inr (.inl _) => exact Or.inl rfl
      | .inr (.inr _) => exact Or.inr rfl
    rcases h2 with h2 | h2 <;> rw [h2] <;> simp
  | [], _ :: _, ha => ha.elim
  | _ :: _, [], ha => ha.elim
theorem ck_entL_ok {ty : Nat → Option Nat} {X : Nat → Int} : ∀ {pa : List ck_AV} {vs : List Value} {i : Nat}, ck_args ty pa vs → pa.all (fun a => ck_le (ck_nod a) a) = true → (∀ q ∈ lv_args i vs, ∀ x : Int32, q.2 = .int x → X (2 * q.1) = x.toInt) → ck_L ty X (ck_entL pa i) (lv_args i vs)
  | [], [], i, _, _, _ => True.intro
  | a :: pa, v :: vs, i, ha, hn, hx => by
    simp only [List.all_cons, Bool.and_eq_true] at hn
    have h1 := ck_v_cat ha.1
    have h2 : ck_cat a = 1 ∨ ck_cat a = 2 := by
      match a with
      | .inl _ => exact Or.inl rfl
      | .inr (.inl _) => exact Or.inl rfl
      | .inr (.inr _) => exact Or.inr rfl
    have e : (if v.category = 2 then i + 2 else i + 1) = i + ck_cat a := by
      rw [h1]
      rcases h2 with h2 | h2 <;> rw [h2] <;> simp
    have hx' : ∀ q ∈ lv_args (i + ck_cat a) vs, ∀ x : Int32, q.2 = .int x → X (2 * q.1) = x.toInt := by
      intro q hq x hqx
      refine hx q ?_ x hqx
      unfold lv_args
      rw [e]
      exact List.mem_cons_of_mem _ hq
    have ih := ck_entL_ok (i := i + ck_cat a) ha.2 hn.2 hx'
    unfold ck_entL lv_args
    rw [e]
    refine ⟨⟨rfl, ?_⟩, ih⟩
    exact ck_addc_ok (ck_le_ok hn.1 (ck_nod_ok ha.1)) (fun x hv => hx (i, v) (by unfold lv_args; exact List.mem_cons_self) x hv)
  | [], _ :: _, _, ha, _, _ => ha.elim
  | _ :: _, [], _, ha, _, _ => ha.elim
section CK12
variable {p : Program} {l : Launch} {e : Env} {R : Room} {s : State} {m : MethodId} {args : Array Value} {below : List Frame} {meth : Method} {c : Code} {H H0 : Heap} {locs : List Loc} {Q : State → Prop} {cc : ByteArray} {pc len : Nat} {ls : Array Slot} {st : List Value}
variable {D : va_G} {cys : Nat → ClassId} {ty : Nat → Option Nat} {tg : List ck_TD} {pvT : List (Nat × Nat)} {prot : Nat → List (Nat × Nat)} {Ex : va_W → Prop} {pvv : Nat → Int32} {Ts : List Jvm.Cond} {LK : Nat → Nat → Option ck_En} {o nL : Nat} {X : Nat → Int} {A : ck_AS} {out : List (Nat × ck_AS)} {i : Instr}
variable {tab : Nat → ck_K} {bd : Nat} {k : ck_K} {vs : List Value} {pvv0 : Nat → Int32}
theorem ck_res_ok (he : ck_annOK A = true) (hO : ∀ v, X (2 * v + 1) = ck_val ls pvv v) (hsat : ck_sat D cys ty tg pvT Ex nL H0 X A ls st pvv H locs) : ck_sat D cys ty tg pvT Ex nL H0 X (ck_res A) ls st pvv H locs := by
  obtain ⟨lv, h1, h2, h3, h4, h5, h6⟩ := hsat
  refine ⟨lv, h1, ck_resL hO h1 he h2, h3, ck_addP_ok h4 (fun j => ?_), h5, h6⟩
  rw [show 2001 + 2 * j = 2 * (1000 + j) + 1 by omega, hO]
  unfold ck_val
  rw [if_neg (by omega), Nat.add_sub_cancel_left]
theorem ck_places (C : ck_Ctx l D cys ty tg pvT prot Ex LK tab bd) (B : ck_At p s m args meth c D cys k) (hR : R = ck_rm k) (hpr : ck_pvo ty (ck_XE pvv0) (k_pr k) pvv0) (ha : ck_args ty (k_pa k) vs) {fuel : Nat} (hall : (k_an k).all (ck_one tg pvT prot LK tab bd k fuel) = true) :
    ∀ (nn : Nat) (a : ck_An), a ∈ k_an k → ∀ (Y : Nat → Int) (ls' : Array Slot) (st' : List Value) (pvv' : Nat → Int32) (H' : Heap) (locs' : List Loc), ck_X0 (k_pa k) vs pvv0 Y → (∀ v, Y (2 * v + 1) = ck_val ls' pvv' v) → ck_sat D cys ty tg pvT Ex (k_ml k) s.heap Y a.2.1 ls' st' pvv' H' locs' → a.2.2.1 + ck_rkv (ck_val ls' pvv') a.2.2.2 < nn → W p l e R s m args below meth c H' locs' 0 0 (MQ below (ck_Qc D cys ty tg pvT Ex k vs pvv0) args s 0 0 (ck_own ty)) (F0 m a.1 ls' st') := by
  intro nn
  induction nn with
  | zero =>
    intro a hm Y ls' st' pvv' H' locs' h0 hO hsat hr
    have h1 := List.all_eq_true.mp hall a hm
    simp only [ck_one, Bool.and_eq_true] at h1
    have h2 := h1.1.2
    split at h2
    · next u hu =>
      have h2 := of_decide_eq_true h2
      have h3 := ck_lbs_ok (f := ck_val ls' pvv') (fun v r hv => ⟨(ck_avOf_ok hsat hv).1, (ck_avOf_ok hsat hv).2.1⟩) hu
      omega
    · cases h2
  | succ n ih =>
    intro a hm Y ls' st' pvv' H' locs' h0 hO hsat hr
    have h1 := List.all_eq_true.mp hall a hm
    simp only [ck_one, Bool.and_eq_true] at h1
    have h2 := h1.2
    have hs := ck_res_ok h1.1.1 hO hsat
    split at h2
    · next i len hd =>
      split at h2
      · next o hq =>
        refine ck_step_ok C B hR h0 hpr ha hq hd hs (fun q hqm ls2 st2 pvv2 H2 locs2 hs2 => ?_)
        exact ck_run_ok C B hR h0 hpr ha (rs := a.2.2) (Bs := ck_res a.2.1) (f := ck_val ls' pvv') (nn := n) hO (fun v r hv => ⟨(ck_avOf_ok hs hv).1, (ck_avOf_ok hs hv).2.1⟩) (by omega) ih (List.all_eq_true.mp h2 q hqm) hs2
      · cases h2
    · cases h2
theorem ck_sound (C : ck_Ctx l D cys ty tg pvT prot Ex LK tab bd) (hy : plainName (k_y k).cls = true) (ho : ck_R (k_ow k) = (k_y k).cls) {fuel : Nat} (h : ck_check tg pvT prot LK tab bd k fuel = true) : ck_Holds l D cys ty tg pvT Ex k := by
  simp only [ck_check, Bool.and_eq_true, decide_eq_true_eq] at h
  obtain ⟨⟨⟨⟨⟨g1, g2⟩, g3⟩, g4⟩, g5⟩, g6⟩ := h
  intro vs pvv0 ha hpre
  refine Met.ofW (cc := k_cc k) (maxL := k_ml k) (ret := k_rt k) hy rfl ?_
  intro p e s m args below meth c s₁ B hml hv
  obtain ⟨rfl, hW, hK, hN⟩ := hv
  have hts := atoms_spec (ws := ck_ws k) B.pre
  have hown : s.vm.findClass (ck_R (k_ow k)) = some m.cls := by rw [ho]; exact findClass_of_methodNamed B.named
  have hlen := ck_sl_len ha
  have hl := lv_entry vs (n := k_ml k) (by rw [hlen]; exact g1)
  rw [lg_entry_eq]
  generalize (lg_sl vs ++ List.replicate (k_ml k - (lg_sl vs).length) Slot.unset).toArray = ls at hl ⊢
  have hAt : ck_At p s m vs.toArray meth c D cys k := ⟨B.exec, B.bytes, hml, B.returns, B.notSynchronized, hts, hown, hK, hN⟩
  have hlt : ∀ q ∈ lv_args 0 vs, q.1 < 1000 := by
    intro q hq
    have h1 := lv_lt (hl.2.2 q hq)
    have h2 := hl.1
    omega
  have hX : ∀ q ∈ lv_args 0 vs, ∀ x : Int32, q.2 = .int x → ck_val ls pvv0 (2 * q.1 / 2) = x.toInt := by
    intro q hq x hx
    have h1 := hl.2.2 q hq
    rw [hx] at h1
    rw [show 2 * q.1 / 2 = q.1 by omega]
    unfold ck_val ck_lval
    rw [if_pos (hlt q hq), h1]
  have h0 : ck_X0 (k_pa k) vs pvv0 (fun n => ck_val ls pvv0 (n / 2)) := by
    refine ⟨fun n x hx => ?_, fun j => ?_⟩
    · have h1 := ck_args_in (i := 0) ha hx
      rw [Nat.zero_add] at h1
      exact hX _ h1 x rfl
    · dsimp only
      rw [show 2 * (1000 + j) / 2 = 1000 + j by omega]
      unfold ck_val
      rw [if_neg (by omega), Nat.add_sub_cancel_left]
  have hsat : ck_sat D cys ty tg pvT Ex (k_ml k) s.heap (fun n => ck_val ls pvv0 (n / 2)) (ck_entry k) ls [] pvv0 s.heap [] := by
    refine ⟨lv_args 0 vs, hl, ck_entL_ok ha g3 hX, True.intro, ck_addP_ok (fun j av hj => ?_) (fun j => ?_), hW, va_S.rf⟩
    · have h1 := hpre j av hj
      have h2 := List.all_eq_true.mp g4 av (List.mem_of_getElem? hj)
      match av, h1, h2 with
      | .inl r, h1, h2 =>
        obtain ⟨x, e, a1, a2, a3⟩ := h1
        refine ⟨x, e, a1, a2, fun d hd => ?_⟩
        have h3 := List.all_eq_true.mp h2 d hd
        simp only [Bool.and_eq_true, decide_eq_true_eq] at h3
        have h4 := a3 d hd
        have h5 : ck_val ls pvv0 (d.1 / 2) = ck_XE pvv0 d.1 := by
          unfold ck_val ck_XE
          rw [if_neg (by omega)]
        rw [← h5] at h4
        exact h4
      | .inr (.inl t), h1, _ => exact h1
      | .inr (.inr u), h1, _ => exact h1
    · rw [show (2000 + 2 * j) / 2 = 1000 + j by omega]
      unfold ck_val
      rw [if_neg (by omega), Nat.add_sub_cancel_left]
  refine ck_run_ok C hAt rfl h0 hpre ha (rs := ck_top) (Bs := ([], [], [])) (f := fun v => ck_val ls pvv0 ((2 * v + 1) / 2)) (nn := 1000000000000) (fun v => rfl) (fun v r hv => ?_) (by simp [ck_top, ck_rkv]) (ck_places C hAt rfl hpre ha g6 1000000000000) g5 hsat
  unfold ck_avOf at hv
  split at hv
  · simp [ck_load] at hv
  · simp at hv
end CK12
end
section
/-! BY HAND, 1: entering a method, reading and writing an opened world, calling by contract, ending. -/
section CM
variable {p : Program} {l : Launch} {e : Env} {R : Room} {s : State} {m : MethodId} {args : Array Value} {below : List Frame} {meth : Method} {c : Code} {H H0 : Heap} {locs : List Loc} {Q : State → Prop} {cc : ByteArray} {pc len : Nat} {ls : Array Slot} {st : List Value}
variable {D : va_G} {cys : Nat → ClassId} {ty : Nat → Option Nat} {tg : List ck_TD} {pvT : List (Nat × Nat)} {prot : Nat → List (Nat × Nat)} {Ex : va_W → Prop} {pvv : Nat → Int32} {Ts : List Jvm.Cond} {LK : Nat → Nat → Option ck_En} {o nL : Nat} {X : Nat → Int} {A : ck_AS} {out : List (Nat × ck_AS)} {i : Instr}
variable {tab : Nat → ck_K} {bd : Nat} {k : ck_K} {vs : List Value} {pvv0 : Nat → Int32} {ws : va_W} {rest : List Value}
theorem cm_enter (hy : plainName (k_y k).cls = true) (ho : ck_R (k_ow k) = (k_y k).cls) (g1 : ((k_pa k).map ck_cat).sum ≤ k_ml k)
    (h : ∀ (vs : List Value) (pvv0 : Nat → Int32) (p : Program) (e : Env) (s : State) (m : MethodId) (below : List Frame) (meth : Method) (c : Code) (ls : Array Slot), ck_args ty (k_pa k) vs → ck_pvo ty (ck_XE pvv0) (k_pr k) pvv0 → ck_At p s m vs.toArray meth c D cys k → lv_has ls (k_ml k) (lv_args 0 vs) → ck_Wo D cys ty tg pvT Ex pvv0 s.heap → W p l e (ck_rm k) s m vs.toArray below meth c s.heap [] 0 0 (MQ below (ck_Qc D cys ty tg pvT Ex k vs pvv0) vs.toArray s 0 0 (ck_own ty)) (F0 m 0 ls [])) : ck_Holds l D cys ty tg pvT Ex k := by
  intro vs pvv0 ha hpre
  refine Met.ofW (cc := k_cc k) (maxL := k_ml k) (ret := k_rt k) hy rfl ?_
  intro p e s m args below meth c s₁ B hml hv
  obtain ⟨rfl, hW, hK, hN⟩ := hv
  have hts := atoms_spec (ws := ck_ws k) B.pre
  have hown : s.vm.findClass (ck_R (k_ow k)) = some m.cls := by rw [ho]; exact findClass_of_methodNamed B.named
  have hlen := ck_sl_len ha
  have hl := lv_entry vs (n := k_ml k) (by rw [hlen]; exact g1)
  rw [lg_entry_eq]
  generalize (lg_sl vs ++ List.replicate (k_ml k - (lg_sl vs).length) Slot.unset).toArray = ls at hl ⊢
  exact h vs pvv0 p e s m below meth c ls ha hpre ⟨B.exec, B.bytes, hml, B.returns, B.notSynchronized, hts, hown, hK, hN⟩ hl hW
theorem cm_get (B : ck_At p s m args meth c D cys k) (hLK : ck_LKf LK) (hb : c.code = cc) (hP : va_P D ck_cl ws H) {q a ci j cd index : Nat} {fs : List Value} (hq : ws[q]? = some (a, .inr (ci, fs))) (hl : LK (k_ow k) index = some (.inl (ci, j, cd))) {v : Value} (hv : fs[j]? = some v) (hdg : decode cc pc = .ok (.getfield index, 3))
    (kk : W p l e R s m args below meth c H locs 0 0 Q (F0 m (pc + 3) ls (v :: rest))) : W p l e R s m args below meth c H locs 0 0 Q (F0 m pc ls (.ref a :: rest)) := by
  obtain ⟨B1, B2, B3, B4, B5, B6, B7, B8, B9⟩ := B
  obtain ⟨⟨C, T, N⟩, h1, h2, h3, -⟩ := hLK _ _ _ _ _ hl
  have hin : ∀ w ∈ wsL_law0, w ∈ ck_ws k := fun w hw => List.mem_cons_of_mem _ hw
  exact va_get (own := ck_R (k_ow k)) (ref := (T j).1) B1 hb B6 (fun w h => hin w ((ck_cl_ok h1).1 w h)) B7 B8 hP q hq h1 j h2 (B6 _ (hin _ h3)) (fun _ h => h) hv hdg kk
theorem cm_put (B : ck_At p s m args meth c D cys k) (hLK : ck_LKf LK) (hb : c.code = cc) (hP : va_P D ck_cl ws H) {Ap : Nat → Prop} (hD : va_D Ap ws) (hS : va_S Ap H0 H locs) {q a ci j cd index : Nat} {fs : List Value} (hq : ws[q]? = some (a, .inr (ci, fs))) (hl : LK (k_ow k) index = some (.inl (ci, j, cd))) {x : Int32} (hcd : cd = 0 ∨ cd = 1 ∧ 0 ≤ x.toInt ∧ x.toInt ≤ 1) (hjl : j < fs.length) (hdg : decode cc pc = .ok (.putfield index, 3))
    (kk : ∀ (H1 : Heap) (locs1 : List Loc), va_P D ck_cl (ws.set q (a, .inr (ci, fs.set j (.int x)))) H1 → va_D Ap (ws.set q (a, .inr (ci, fs.set j (.int x)))) → va_S Ap H0 H1 locs1 → W p l e R s m args below meth c H1 locs1 0 0 Q (F0 m (pc + 3) ls rest)) : W p l e R s m args below meth c H locs 0 0 Q (F0 m pc ls (.int x :: .ref a :: rest)) := by
  obtain ⟨B1, B2, B3, B4, B5, B6, B7, B8, B9⟩ := B
  obtain ⟨⟨C, T, N⟩, h1, h2, h3, h4, h5, -⟩ := hLK _ _ _ _ _ hl
  obtain ⟨k1, ⟨ty0, k2⟩, k3⟩ := ck_cl_ok h1
  have hin : ∀ w ∈ wsL_law0, w ∈ ck_ws k := fun w hw => List.mem_cons_of_mem _ hw
  rcases hcd with rfl | ⟨rfl, b1, b2⟩
  · exact va_put (own := ck_R (k_ow k)) (ref := (T j).1) B1 hb B6 (fun w h => hin w (k1 w h)) ty0 k2 k3 B7 B8 hP hD hS q hq h1 j h2 (B6 _ (hin _ h3)) (fun _ h => h) (h4 rfl).1 (h4 rfl).2 rfl rfl hjl hdg kk
  · exact va_put (own := ck_R (k_ow k)) (ref := (T j).1) B1 hb B6 (fun w h => hin w (k1 w h)) ty0 k2 k3 B7 B8 hP hD hS q hq h1 j h2 (B6 _ (hin _ h3)) (fun _ h => h) (h5 rfl).1 (h5 rfl).2 (ck_nbool ⟨b1, b2⟩).1 (ck_nbool ⟨b1, b2⟩).2 hjl hdg kk
theorem cm_iald (B : ck_At p s m args meth c D cys k) (hb : c.code = cc) (hP : va_P D ck_cl ws H) {q a n : Nat} {f : Nat → Int32} (hq : ws[q]? = some (a, .inl (cys 0, n, .inl f))) {x : Int32} (h0 : 0 ≤ x.toInt) (h1 : x.toInt < n) (hdg : decode cc pc = .ok (.iaload, 1))
    (kk : W p l e R s m args below meth c H locs 0 0 Q (F0 m (pc + 1) ls (.int (f x.toInt.toNat) :: rest))) : W p l e R s m args below meth c H locs 0 0 Q (F0 m pc ls (.int x :: .ref a :: rest)) :=
  va_iald B.1 hb B.2.2.2.2.2.2.2.1 hP q 0 hq rfl (ck_vin h0 h1) hdg (by rw [ck_cl0 h0]; exact kk)
theorem cm_iast (B : ck_At p s m args meth c D cys k) (hb : c.code = cc) (hP : va_P D ck_cl ws H) {Ap : Nat → Prop} (hD : va_D Ap ws) (hS : va_S Ap H0 H locs) {q a n : Nat} {f : Nat → Int32} (hq : ws[q]? = some (a, .inl (cys 0, n, .inl f))) {x y : Int32} (h0 : 0 ≤ x.toInt) (h1 : x.toInt < n) (hdg : decode cc pc = .ok (.iastore, 1))
    (kk : ∀ (H1 : Heap) (locs1 : List Loc), va_P D ck_cl (ws.set q (a, .inl (cys 0, n, .inl (upd f x.toInt.toNat y)))) H1 → va_D Ap (ws.set q (a, .inl (cys 0, n, .inl (upd f x.toInt.toNat y)))) → va_S Ap H0 H1 locs1 → W p l e R s m args below meth c H1 locs1 0 0 Q (F0 m (pc + 1) ls rest)) : W p l e R s m args below meth c H locs 0 0 Q (F0 m pc ls (.int y :: .int x :: .ref a :: rest)) :=
  va_iast B.1 hb B.2.2.2.2.2.2.2.1 hP hD hS q 0 hq rfl (ck_vin h0 h1) hdg (by rw [ck_cl0 h0]; exact kk)
/-- a call by its contract, whatever is kept besides -/
theorem cm_callV (B : ck_At p s m args meth c D cys k) (hR : R = ck_rm k) (hb : c.code = cc) {lv : List (Nat × Value)} (hl : lv_has ls (k_ml k) lv) {kc : ck_K} {ix : Nat} (hm : ck_mOK tg (k_ow k) ix 0 kc) (hHo : ck_Holds l D cys ty tg pvT Ex kc) {b : Nat} {As st0 : List Value} (ha : ck_args ty (k_pa kc) (.ref b :: As)) (hpr : ck_pvo ty (ck_XE pvv) (k_pr kc) pvv) (hW : ck_Wo D cys ty tg pvT Ex pvv H) (hS : va_S (ck_own ty) H0 H locs) (hvs : st0 = As.reverse ++ .ref b :: rest) (hf : k_fr kc + 1 ≤ k_fr k) (hlo : 8 + (k_ml kc + 11) + k_lo kc ≤ k_lo k) (hr8 : (rest.map fun v => v.category).sum ≤ 8) (hdg : decode cc pc = .ok (.invokevirtual ix, 3))
    (kk : ∀ cs ∈ k_cs kc, ∀ (r : Option Value) (pvv' : Nat → Int32) (H1 : Heap) (locs1 : List Loc), ck_caseOK ty cs (.ref b :: As) pvv pvv' r → ck_Wo D cys ty tg pvT Ex pvv' H1 → va_S (ck_own ty) H0 H1 locs1 → W p l e R s m args below meth c H1 locs1 0 0 Q (F0 m (pc + 3) ls (r.toList ++ rest))) : W p l e R s m args below meth c H locs 0 0 Q (F0 m pc ls st0) := by
  obtain ⟨B1, B2, B3, B4, B5, hts, hown, hK, hNw⟩ := B
  have hin : ∀ w ∈ wsL_law0, w ∈ ck_ws k := fun w hw => List.mem_cons_of_mem _ hw
  obtain ⟨m1, m2, m3, m4, -⟩ := hm
  obtain ⟨w1, w2, w3, t, ci, fts, r, pa, p1, p2, p3, p4, p5⟩ := m4 rfl
  have hG : GoodIn (ck_ws k) (ck_ws kc) := fun w hw => by
    rcases List.mem_cons.mp hw with hw | hw
    · subst hw; exact ⟨hin _ m1, ck_good _ m1⟩
    · exact ⟨hin _ hw, ck_good _ hw⟩
  have hM := hHo (.ref b :: As) pvv ha hpr
  rw [p1] at ha
  have hvl := ck_args_len ha.2
  obtain ⟨⟨b', e', hb0⟩, -⟩ := ha
  cases e'
  obtain ⟨ws, hP, hD, hT, hV, hE⟩ := id hW
  obtain ⟨q, en, td, g1, g2, g3⟩ := hT b t hb0
  rw [p2] at g2
  cases g2
  obtain ⟨fs, rfl, -, -⟩ := g3
  have hrun := va_runV (p := p) (l := l) (e := e) (R := R) (s := s) (m := m) (args := args) (below := below) (meth := meth) (c := c) (H := H) (locs := locs) (cells := 0) (slots := 0) (g := F0 m pc ls st0) (As := As) (rest := rest) (b := b) (nL := k_ml k) (own := ck_R (k_ow k)) (index := ix) (bytes := k_cc kc) (maxL := k_ml kc) (ret := k_rt kc) (n := pa.length) ⟨B1, hb, B3, hown, hts⟩ hM ⟨callB_of pa.length hts hG rfl rfl rfl (hts _ (hin _ m2)) (hts _ (hin _ w1)) ⟨m3.1, m3.2, p5⟩ ⟨by rw [hR]; exact hf, by rw [hR]; exact hlo⟩, hts _ (hin _ w2), hts _ (hin _ w3)⟩
    ⟨ck_blind _, by have := va_recv hK hP p3 g1; rw [p4] at this; exact this, fun U hU hWm => ⟨rfl, by rw [hU]; exact hW, va_K.moved hWm.alike hK, ck_nest_warm hWm hNw⟩⟩ rfl hvl hl.1 hvs (lv_room hr8) hdg ⟨Nat.zero_le _, Nat.zero_le _⟩
  exact ck_after hrun hS kk
theorem cm_callS (B : ck_At p s m args meth c D cys k) (hR : R = ck_rm k) (hb : c.code = cc) {lv : List (Nat × Value)} (hl : lv_has ls (k_ml k) lv) {kc : ck_K} {ix : Nat} (hm : ck_mOK tg (k_ow k) ix 1 kc) (hHo : ck_Holds l D cys ty tg pvT Ex kc) {As st0 : List Value} (ha : ck_args ty (k_pa kc) As) (hpr : ck_pvo ty (ck_XE pvv) (k_pr kc) pvv) (hW : ck_Wo D cys ty tg pvT Ex pvv H) (hS : va_S (ck_own ty) H0 H locs) (hvs : st0 = As.reverse ++ rest) (hf : k_fr kc + 1 ≤ k_fr k) (hlo : 8 + (k_ml kc + 11) + k_lo kc ≤ k_lo k) (hr8 : (rest.map fun v => v.category).sum ≤ 8) (hdg : decode cc pc = .ok (.invokestatic ix, 3))
    (kk : ∀ cs ∈ k_cs kc, ∀ (r : Option Value) (pvv' : Nat → Int32) (H1 : Heap) (locs1 : List Loc), ck_caseOK ty cs As pvv pvv' r → ck_Wo D cys ty tg pvT Ex pvv' H1 → va_S (ck_own ty) H0 H1 locs1 → W p l e R s m args below meth c H1 locs1 0 0 Q (F0 m (pc + 3) ls (r.toList ++ rest))) : W p l e R s m args below meth c H locs 0 0 Q (F0 m pc ls st0) := by
  obtain ⟨B1, B2, B3, B4, B5, hts, hown, hK, hNw⟩ := B
  have hin : ∀ w ∈ wsL_law0, w ∈ ck_ws k := fun w hw => List.mem_cons_of_mem _ hw
  obtain ⟨m1, m2, m3, -, m4, -⟩ := hm
  obtain ⟨w1, w2, p5⟩ := m4 rfl
  have hG : GoodIn (ck_ws k) (ck_ws kc) := fun w hw => by
    rcases List.mem_cons.mp hw with hw | hw
    · subst hw; exact ⟨hin _ m1, ck_good _ m1⟩
    · exact ⟨hin _ hw, ck_good _ hw⟩
  have hM := hHo As pvv ha hpr
  have hvl := ck_args_len ha
  have hrun := va_runS (p := p) (l := l) (e := e) (R := R) (s := s) (m := m) (args := args) (below := below) (meth := meth) (c := c) (H := H) (locs := locs) (cells := 0) (slots := 0) (g := F0 m pc ls st0) (As := As) (rest := rest) (nL := k_ml k) (own := ck_R (k_ow k)) (index := ix) (bytes := k_cc kc) (maxL := k_ml kc) (ret := k_rt kc) (n := (k_pa kc).length) ⟨B1, hb, B3, hown, hts⟩ hM ⟨callB_of _ hts hG rfl rfl rfl (hts _ (hin _ m2)) (hts _ (hin _ w1)) ⟨m3.1, m3.2, p5⟩ ⟨by rw [hR]; exact hf, by rw [hR]; exact hlo⟩, hts _ (hin _ w2)⟩
    ⟨ck_blind _, fun U hU hWm => ⟨rfl, by rw [hU]; exact hW, va_K.moved hWm.alike hK, ck_nest_warm hWm hNw⟩⟩ rfl hvl hl.1 hvs (lv_room hr8) hdg ⟨Nat.zero_le _, Nat.zero_le _⟩
  exact ck_after hrun hS kk
/-- ends -/
theorem cm_iret (B : ck_At p s m args meth c D cys k) (hb : c.code = cc) (hrt : k_rt k = some .int) {x : Int32} (hq : ∃ cs ∈ k_cs k, ck_caseOK ty cs vs pvv0 pvv (some (.int x))) (hW : ck_Wo D cys ty tg pvT Ex pvv H) (hS : va_S (ck_own ty) s.heap H locs) (hdg : decode cc pc = .ok (.ireturn, 1)) : W p l e R s m args below meth c H locs 0 0 (MQ below (ck_Qc D cys ty tg pvT Ex k vs pvv0) args s 0 0 (ck_own ty)) (F0 m pc ls [.int x]) := by
  obtain ⟨cs, g1, g2⟩ := hq
  exact W.zret B.1 hb (B.2.2.2.1.trans hrt) rfl (fun t ht _ => ⟨⟨cs, g1, _, pvv, rfl, g2, by rw [ht]; exact hW⟩, hS.F ht⟩) hS.2.2 hdg B.2.2.2.2.1
theorem cm_zret (B : ck_At p s m args meth c D cys k) (hb : c.code = cc) (hrt : k_rt k = some .boolean) {x : Int32} (hx : 0 ≤ x.toInt ∧ x.toInt ≤ 1) (hq : ∃ cs ∈ k_cs k, ck_caseOK ty cs vs pvv0 pvv (some (.int x))) (hW : ck_Wo D cys ty tg pvT Ex pvv H) (hS : va_S (ck_own ty) s.heap H locs) (hdg : decode cc pc = .ok (.ireturn, 1)) : W p l e R s m args below meth c H locs 0 0 (MQ below (ck_Qc D cys ty tg pvT Ex k vs pvv0) args s 0 0 (ck_own ty)) (F0 m pc ls [.int x]) := by
  obtain ⟨cs, g1, g2⟩ := hq
  exact W.zret B.1 hb (B.2.2.2.1.trans hrt) (ck_nbool hx).1 (fun t ht _ => ⟨⟨cs, g1, _, pvv, rfl, g2, by rw [ht]; exact hW⟩, hS.F ht⟩) hS.2.2 hdg B.2.2.2.2.1
theorem cm_vret (B : ck_At p s m args meth c D cys k) (hb : c.code = cc) (hrt : k_rt k = none) (hq : ∃ cs ∈ k_cs k, ck_caseOK ty cs vs pvv0 pvv none) (hW : ck_Wo D cys ty tg pvT Ex pvv H) (hS : va_S (ck_own ty) s.heap H locs) (hdg : decode cc pc = .ok (.return_, 1)) : W p l e R s m args below meth c H locs 0 0 (MQ below (ck_Qc D cys ty tg pvT Ex k vs pvv0) args s 0 0 (ck_own ty)) (F0 m pc ls []) := by
  obtain ⟨cs, g1, g2⟩ := hq
  exact W.vret B.1 hb (B.2.2.2.1.trans hrt) (fun t ht _ => ⟨⟨cs, g1, _, pvv, rfl, g2, by rw [ht]; exact hW⟩, hS.F ht⟩) hS.2.2 hdg B.2.2.2.2.1
/-- an object of a sort, opened -/
theorem cm_obj (hT : ck_typed ty cys tg ws) {a t ci : Nat} {fts : List ck_AV} (hta : ty a = some t) (htd : tg[t]? = some (.inl (ci, fts))) : ∃ (q : Nat) (fs : List Value), ws[q]? = some (a, .inr (ci, fs)) ∧ fs.length = fts.length ∧ ∀ (j : Nat) (ft : ck_AV), fts[j]? = some ft → ∃ v, fs[j]? = some v ∧ ck_v ty (fun _ => 0) ft v := by
  obtain ⟨q, en, td, g1, g2, g3⟩ := hT a t hta
  rw [htd] at g2
  cases g2
  obtain ⟨fs, rfl, h2, h3⟩ := g3
  exact ⟨q, fs, g1, h2, h3⟩
end CM
end
section
/-! BY HAND, 2: rows for walks. A number is known by its Int, a cell by its sort; what is kept besides goes from Ex to Ex'. -/
section HR
variable {p : Program} {l : Launch} {e : Env} {R : Room} {s : State} {m : MethodId} {args : Array Value} {below : List Frame} {meth : Method} {c : Code} {H H0 : Heap} {locs : List Loc} {Q : State → Prop} {cc : ByteArray} {pc : Nat} {ls : Array Slot} {rest : List Value}
variable {D : va_G} {cys : Nat → ClassId} {ty : Nat → Option Nat} {tg : List ck_TD} {pvT : List (Nat × Nat)} {prot : Nat → List (Nat × Nat)} {Ex Ex' : va_W → Prop} {pvv : Nat → Int32} {LK : Nat → Nat → Option ck_En} {k : ck_K}
theorem hr_ic (hx : p.tables.exec = Jvm.exec) (hb : c.code = cc) {n : Int} (hdg : decode cc pc = .ok (.iconst n, 1)) (hn : ck_in32 n n = true) (kk : ∀ z : Int32, z.toInt = n → W p l e R s m args below meth c H locs 0 0 Q (F0 m (pc + 1) ls (.int z :: rest))) : W p l e R s m args below meth c H locs 0 0 Q (F0 m pc ls rest) := lv_iconst hx hb hdg rfl (kk _ (ck_ofI hn))
theorem hr_bp (hx : p.tables.exec = Jvm.exec) (hb : c.code = cc) {n : Int} (hdg : decode cc pc = .ok (.bipush n, 2)) (h1 : -128 ≤ n) (h2 : n ≤ 127) (kk : ∀ z : Int32, z.toInt = n → W p l e R s m args below meth c H locs 0 0 Q (F0 m (pc + 2) ls (.int z :: rest))) : W p l e R s m args below meth c H locs 0 0 Q (F0 m pc ls rest) := lv_bipush hx hb hdg rfl (kk _ (ck_of8 h1 h2))
theorem hr_sp (hx : p.tables.exec = Jvm.exec) (hb : c.code = cc) {n : Int} (hdg : decode cc pc = .ok (.sipush n, 3)) (h1 : -32768 ≤ n) (h2 : n ≤ 32767) (kk : ∀ z : Int32, z.toInt = n → W p l e R s m args below meth c H locs 0 0 Q (F0 m (pc + 3) ls (.int z :: rest))) : W p l e R s m args below meth c H locs 0 0 Q (F0 m pc ls rest) := lv_sipush hx hb hdg rfl (kk _ (ck_of16 h1 h2))
theorem hr_add (hx : p.tables.exec = Jvm.exec) (hb : c.code = cc) {x y : Int32} (hdg : decode cc pc = .ok (.iadd, 1)) (h1 : -2147483648 ≤ x.toInt + y.toInt) (h2 : x.toInt + y.toInt ≤ 2147483647) (kk : ∀ z : Int32, z.toInt = x.toInt + y.toInt → W p l e R s m args below meth c H locs 0 0 Q (F0 m (pc + 1) ls (.int z :: rest))) : W p l e R s m args below meth c H locs 0 0 Q (F0 m pc ls (.int y :: .int x :: rest)) := lv_iadd hx hb hdg (kk _ (ck_addT h1 h2))
theorem hr_sub (hx : p.tables.exec = Jvm.exec) (hb : c.code = cc) {x y : Int32} (hdg : decode cc pc = .ok (.isub, 1)) (h1 : -2147483648 ≤ x.toInt - y.toInt) (h2 : x.toInt - y.toInt ≤ 2147483647) (kk : ∀ z : Int32, z.toInt = x.toInt - y.toInt → W p l e R s m args below meth c H locs 0 0 Q (F0 m (pc + 1) ls (.int z :: rest))) : W p l e R s m args below meth c H locs 0 0 Q (F0 m pc ls (.int y :: .int x :: rest)) := lv_isub hx hb hdg (kk _ (ck_subT h1 h2))
theorem hr_mulL (hx : p.tables.exec = Jvm.exec) (hb : c.code = cc) {x y : Int32} {n : Int} (hdg : decode cc pc = .ok (.imul, 1)) (hn : x.toInt = n) (h1 : -2147483648 ≤ n * y.toInt) (h2 : n * y.toInt ≤ 2147483647) (kk : ∀ z : Int32, z.toInt = n * y.toInt → W p l e R s m args below meth c H locs 0 0 Q (F0 m (pc + 1) ls (.int z :: rest))) : W p l e R s m args below meth c H locs 0 0 Q (F0 m pc ls (.int y :: .int x :: rest)) := lv_imul hx hb hdg (kk _ (by rw [← hn] at h1 h2 ⊢; exact ck_mulT h1 h2))
theorem hr_mulR (hx : p.tables.exec = Jvm.exec) (hb : c.code = cc) {x y : Int32} {n : Int} (hdg : decode cc pc = .ok (.imul, 1)) (hn : y.toInt = n) (h1 : -2147483648 ≤ x.toInt * n) (h2 : x.toInt * n ≤ 2147483647) (kk : ∀ z : Int32, z.toInt = x.toInt * n → W p l e R s m args below meth c H locs 0 0 Q (F0 m (pc + 1) ls (.int z :: rest))) : W p l e R s m args below meth c H locs 0 0 Q (F0 m pc ls (.int y :: .int x :: rest)) := lv_imul hx hb hdg (kk _ (by rw [← hn] at h1 h2 ⊢; exact ck_mulT h1 h2))
theorem hr_inc (hx : p.tables.exec = Jvm.exec) (hb : c.code = cc) {i nL kq : Nat} {n : Int} {x : Int32} {lv : List (Nat × Value)} {lv' : Int32 → List (Nat × Value)} (hdg : decode cc pc = .ok (.iinc i n, 3)) (h : lv_has ls nL lv) (hk : lv[kq]? = some (i, .int x)) (hn : i < nL) (hn2 : ck_in32 n n = true) (h1 : -2147483648 ≤ x.toInt + n) (h2 : x.toInt + n ≤ 2147483647) (hl : ∀ v : Int32, (i, Value.int v) :: lv.filter (fun q => !(q.1 == i) && !(q.1 + 1 == i && q.2.category == 2)) = lv' v)
    (kk : ∀ (z : Int32) (ls' : Array Slot), z.toInt = x.toInt + n → lv_has ls' nL (lv' z) → W p l e R s m args below meth c H locs 0 0 Q (F0 m (pc + 3) ls' rest)) : W p l e R s m args below meth c H locs 0 0 Q (F0 m pc ls rest) := by
  have e1 := ck_ofI hn2
  exact lv_iinc hx hb hdg h hk rfl hn (hl _) (fun ls' h' => kk _ ls' (by rw [ck_addT (by rw [e1]; exact h1) (by rw [e1]; exact h2), e1]) h')
theorem hr_lti {x y : Int32} : x < y ↔ x.toInt < y.toInt := Int32.lt_iff_toInt_lt
theorem hr_lei {x y : Int32} : x ≤ y ↔ x.toInt ≤ y.toInt := Int32.le_iff_toInt_le
theorem hr_eqi {x y : Int32} : x = y ↔ x.toInt = y.toInt := Int32.toInt_inj.symm
theorem hr_z0 : (0 : Int32).toInt = 0 := rfl
theorem hr_eq (hx : p.tables.exec = Jvm.exec) (hb : c.code = cc) {x y : Int32} {off : Int} {tgt : Nat} (hdg : decode cc pc = .ok (.if_icmp .eq off, 3)) (ht : (pc : Int) + off = (tgt : Int)) (kt : x.toInt = y.toInt → W p l e R s m args below meth c H locs 0 0 Q (F0 m tgt ls rest)) (kf : x.toInt ≠ y.toInt → W p l e R s m args below meth c H locs 0 0 Q (F0 m (pc + 3) ls rest)) : W p l e R s m args below meth c H locs 0 0 Q (F0 m pc ls (.int y :: .int x :: rest)) :=
  lv_icmp_eq hx hb hdg ht (fun h => kt (by simp only [hr_lti, hr_lei, hr_eqi] at h; omega)) (fun h => kf (by simp only [hr_lti, hr_lei, hr_eqi] at h; omega))
theorem hr_eq0 (hx : p.tables.exec = Jvm.exec) (hb : c.code = cc) {x : Int32} {off : Int} {tgt : Nat} (hdg : decode cc pc = .ok (.ifCond .eq off, 3)) (ht : (pc : Int) + off = (tgt : Int)) (kt : x.toInt = 0 → W p l e R s m args below meth c H locs 0 0 Q (F0 m tgt ls rest)) (kf : x.toInt ≠ 0 → W p l e R s m args below meth c H locs 0 0 Q (F0 m (pc + 3) ls rest)) : W p l e R s m args below meth c H locs 0 0 Q (F0 m pc ls (.int x :: rest)) :=
  lv_if_eq hx hb hdg ht (fun h => kt (by simp only [hr_lti, hr_lei, hr_eqi, hr_z0] at h; omega)) (fun h => kf (by simp only [hr_lti, hr_lei, hr_eqi, hr_z0] at h; omega))
theorem hr_ne (hx : p.tables.exec = Jvm.exec) (hb : c.code = cc) {x y : Int32} {off : Int} {tgt : Nat} (hdg : decode cc pc = .ok (.if_icmp .ne off, 3)) (ht : (pc : Int) + off = (tgt : Int)) (kt : x.toInt ≠ y.toInt → W p l e R s m args below meth c H locs 0 0 Q (F0 m tgt ls rest)) (kf : x.toInt = y.toInt → W p l e R s m args below meth c H locs 0 0 Q (F0 m (pc + 3) ls rest)) : W p l e R s m args below meth c H locs 0 0 Q (F0 m pc ls (.int y :: .int x :: rest)) :=
  lv_icmp_ne hx hb hdg ht (fun h => kt (by simp only [hr_lti, hr_lei, hr_eqi] at h; omega)) (fun h => kf (by simp only [hr_lti, hr_lei, hr_eqi] at h; omega))
theorem hr_ne0 (hx : p.tables.exec = Jvm.exec) (hb : c.code = cc) {x : Int32} {off : Int} {tgt : Nat} (hdg : decode cc pc = .ok (.ifCond .ne off, 3)) (ht : (pc : Int) + off = (tgt : Int)) (kt : x.toInt ≠ 0 → W p l e R s m args below meth c H locs 0 0 Q (F0 m tgt ls rest)) (kf : x.toInt = 0 → W p l e R s m args below meth c H locs 0 0 Q (F0 m (pc + 3) ls rest)) : W p l e R s m args below meth c H locs 0 0 Q (F0 m pc ls (.int x :: rest)) :=
  lv_if_ne hx hb hdg ht (fun h => kt (by simp only [hr_lti, hr_lei, hr_eqi, hr_z0] at h; omega)) (fun h => kf (by simp only [hr_lti, hr_lei, hr_eqi, hr_z0] at h; omega))
theorem hr_lt (hx : p.tables.exec = Jvm.exec) (hb : c.code = cc) {x y : Int32} {off : Int} {tgt : Nat} (hdg : decode cc pc = .ok (.if_icmp .lt off, 3)) (ht : (pc : Int) + off = (tgt : Int)) (kt : x.toInt < y.toInt → W p l e R s m args below meth c H locs 0 0 Q (F0 m tgt ls rest)) (kf : y.toInt ≤ x.toInt → W p l e R s m args below meth c H locs 0 0 Q (F0 m (pc + 3) ls rest)) : W p l e R s m args below meth c H locs 0 0 Q (F0 m pc ls (.int y :: .int x :: rest)) :=
  lv_icmp_lt hx hb hdg ht (fun h => kt (by simp only [hr_lti, hr_lei, hr_eqi] at h; omega)) (fun h => kf (by simp only [hr_lti, hr_lei, hr_eqi] at h; omega))
theorem hr_lt0 (hx : p.tables.exec = Jvm.exec) (hb : c.code = cc) {x : Int32} {off : Int} {tgt : Nat} (hdg : decode cc pc = .ok (.ifCond .lt off, 3)) (ht : (pc : Int) + off = (tgt : Int)) (kt : x.toInt < 0 → W p l e R s m args below meth c H locs 0 0 Q (F0 m tgt ls rest)) (kf : 0 ≤ x.toInt → W p l e R s m args below meth c H locs 0 0 Q (F0 m (pc + 3) ls rest)) : W p l e R s m args below meth c H locs 0 0 Q (F0 m pc ls (.int x :: rest)) :=
  lv_if_lt hx hb hdg ht (fun h => kt (by simp only [hr_lti, hr_lei, hr_eqi, hr_z0] at h; omega)) (fun h => kf (by simp only [hr_lti, hr_lei, hr_eqi, hr_z0] at h; omega))
theorem hr_ge (hx : p.tables.exec = Jvm.exec) (hb : c.code = cc) {x y : Int32} {off : Int} {tgt : Nat} (hdg : decode cc pc = .ok (.if_icmp .ge off, 3)) (ht : (pc : Int) + off = (tgt : Int)) (kt : y.toInt ≤ x.toInt → W p l e R s m args below meth c H locs 0 0 Q (F0 m tgt ls rest)) (kf : x.toInt < y.toInt → W p l e R s m args below meth c H locs 0 0 Q (F0 m (pc + 3) ls rest)) : W p l e R s m args below meth c H locs 0 0 Q (F0 m pc ls (.int y :: .int x :: rest)) :=
  lv_icmp_ge hx hb hdg ht (fun h => kt (by simp only [hr_lti, hr_lei, hr_eqi] at h; omega)) (fun h => kf (by simp only [hr_lti, hr_lei, hr_eqi] at h; omega))
theorem hr_ge0 (hx : p.tables.exec = Jvm.exec) (hb : c.code = cc) {x : Int32} {off : Int} {tgt : Nat} (hdg : decode cc pc = .ok (.ifCond .ge off, 3)) (ht : (pc : Int) + off = (tgt : Int)) (kt : 0 ≤ x.toInt → W p l e R s m args below meth c H locs 0 0 Q (F0 m tgt ls rest)) (kf : x.toInt < 0 → W p l e R s m args below meth c H locs 0 0 Q (F0 m (pc + 3) ls rest)) : W p l e R s m args below meth c H locs 0 0 Q (F0 m pc ls (.int x :: rest)) :=
  lv_if_ge hx hb hdg ht (fun h => kt (by simp only [hr_lti, hr_lei, hr_eqi, hr_z0] at h; omega)) (fun h => kf (by simp only [hr_lti, hr_lei, hr_eqi, hr_z0] at h; omega))
theorem hr_gt (hx : p.tables.exec = Jvm.exec) (hb : c.code = cc) {x y : Int32} {off : Int} {tgt : Nat} (hdg : decode cc pc = .ok (.if_icmp .gt off, 3)) (ht : (pc : Int) + off = (tgt : Int)) (kt : y.toInt < x.toInt → W p l e R s m args below meth c H locs 0 0 Q (F0 m tgt ls rest)) (kf : x.toInt ≤ y.toInt → W p l e R s m args below meth c H locs 0 0 Q (F0 m (pc + 3) ls rest)) : W p l e R s m args below meth c H locs 0 0 Q (F0 m pc ls (.int y :: .int x :: rest)) :=
  lv_icmp_gt hx hb hdg ht (fun h => kt (by simp only [hr_lti, hr_lei, hr_eqi] at h; omega)) (fun h => kf (by simp only [hr_lti, hr_lei, hr_eqi] at h; omega))
theorem hr_gt0 (hx : p.tables.exec = Jvm.exec) (hb : c.code = cc) {x : Int32} {off : Int} {tgt : Nat} (hdg : decode cc pc = .ok (.ifCond .gt off, 3)) (ht : (pc : Int) + off = (tgt : Int)) (kt : 0 < x.toInt → W p l e R s m args below meth c H locs 0 0 Q (F0 m tgt ls rest)) (kf : x.toInt ≤ 0 → W p l e R s m args below meth c H locs 0 0 Q (F0 m (pc + 3) ls rest)) : W p l e R s m args below meth c H locs 0 0 Q (F0 m pc ls (.int x :: rest)) :=
  lv_if_gt hx hb hdg ht (fun h => kt (by simp only [hr_lti, hr_lei, hr_eqi, hr_z0] at h; omega)) (fun h => kf (by simp only [hr_lti, hr_lei, hr_eqi, hr_z0] at h; omega))
theorem hr_le (hx : p.tables.exec = Jvm.exec) (hb : c.code = cc) {x y : Int32} {off : Int} {tgt : Nat} (hdg : decode cc pc = .ok (.if_icmp .le off, 3)) (ht : (pc : Int) + off = (tgt : Int)) (kt : x.toInt ≤ y.toInt → W p l e R s m args below meth c H locs 0 0 Q (F0 m tgt ls rest)) (kf : y.toInt < x.toInt → W p l e R s m args below meth c H locs 0 0 Q (F0 m (pc + 3) ls rest)) : W p l e R s m args below meth c H locs 0 0 Q (F0 m pc ls (.int y :: .int x :: rest)) :=
  lv_icmp_le hx hb hdg ht (fun h => kt (by simp only [hr_lti, hr_lei, hr_eqi] at h; omega)) (fun h => kf (by simp only [hr_lti, hr_lei, hr_eqi] at h; omega))
theorem hr_le0 (hx : p.tables.exec = Jvm.exec) (hb : c.code = cc) {x : Int32} {off : Int} {tgt : Nat} (hdg : decode cc pc = .ok (.ifCond .le off, 3)) (ht : (pc : Int) + off = (tgt : Int)) (kt : x.toInt ≤ 0 → W p l e R s m args below meth c H locs 0 0 Q (F0 m tgt ls rest)) (kf : 0 < x.toInt → W p l e R s m args below meth c H locs 0 0 Q (F0 m (pc + 3) ls rest)) : W p l e R s m args below meth c H locs 0 0 Q (F0 m pc ls (.int x :: rest)) :=
  lv_if_le hx hb hdg ht (fun h => kt (by simp only [hr_lti, hr_lei, hr_eqi, hr_z0] at h; omega)) (fun h => kf (by simp only [hr_lti, hr_lei, hr_eqi, hr_z0] at h; omega))
def hr_xo (ty : Nat → Option Nat) (Ex : va_W → Prop) (a ci j : Nat) (v : Value) : Prop := ∃ (ws : va_W) (q : Nat) (fs : List Value), va_D (ck_own ty) ws ∧ Ex ws ∧ ws[q]? = some (a, .inr (ci, fs)) ∧ fs[j]? = some v
def hr_xa (ty : Nat → Option Nat) (Ex : va_W → Prop) (a : Nat) (cy : ClassId) (n i : Nat) (z : Int32) : Prop := ∃ (ws : va_W) (q : Nat) (f : Nat → Int32), va_D (ck_own ty) ws ∧ Ex ws ∧ ws[q]? = some (a, .inl (cy, n, .inl f)) ∧ f i = z
theorem hr_inr {sg : List (Nat × Int × Int)} {i a b : Nat} {z : Int32} {lo hi : Int} (h : ck_in sg i z) (h1 : a ≤ i) (h2 : i ≤ b) (hs : ck_sj sg a b = (lo, hi)) : lo ≤ z.toInt ∧ z.toInt ≤ hi := by
  have := ck_sj_ok h1 h2 sg
  rw [hs] at this
  obtain ⟨g1, g2⟩ := h
  dsimp only at this
  omega
theorem hr_ins {sg : List (Nat × Int × Int)} {i a b : Nat} {z : Int32} (h1 : a ≤ i) (h2 : i ≤ b) {lo hi : Int} (hs : ck_sm sg a b = (lo, hi)) (g1 : lo ≤ z.toInt) (g2 : z.toInt ≤ hi) : ck_in sg i z := by
  have := ck_sm_ok h1 h2 sg
  rw [hs] at this
  dsimp only at this
  exact ⟨by omega, by omega⟩
theorem hr_mono (h : ∀ ws, Ex ws → Ex' ws) (hW : ck_Wo D cys ty tg pvT Ex pvv H) : ck_Wo D cys ty tg pvT Ex' pvv H := by
  obtain ⟨ws, h1, h2, h3, h4, h5⟩ := hW
  exact ⟨ws, h1, h2, h3, h4, h _ h5⟩
theorem hr_pvE {pvv' : Nat → Int32} (h : ∀ (j : Nat) (q : Nat × Nat), pvT[j]? = some q → pvv' j = pvv j) (hW : ck_Wo D cys ty tg pvT Ex pvv' H) : ck_Wo D cys ty tg pvT Ex pvv H := by
  obtain ⟨ws, h1, h2, h3, h4, h5⟩ := hW
  exact ⟨ws, h1, h2, h3, fun j t i hj a ha => by rw [← h j _ hj]; exact h4 j t i hj a ha, h5⟩
theorem hr_getI (B : ck_At p s m args meth c D cys k) (hF : ck_LKf LK) (hb : c.code = cc) (hW : ck_Wo D cys ty tg pvT Ex pvv H) {a t ci j cd index : Nat} {fts : List ck_AV} {lo hi : Int} (hta : ty a = some t) (htd : tg[t]? = some (.inl (ci, fts))) (hl : LK (k_ow k) index = some (.inl (ci, j, cd))) (hft : fts[j]? = some (.inl (lo, hi, []))) (hdg : decode cc pc = .ok (.getfield index, 3))
    (kk : ∀ z : Int32, lo ≤ z.toInt → z.toInt ≤ hi → (∀ q : Nat, pvT[q]? = some (t, j) → z = pvv q) → hr_xo ty Ex a ci j (.int z) → W p l e R s m args below meth c H locs 0 0 Q (F0 m (pc + 3) ls (.int z :: rest))) : W p l e R s m args below meth c H locs 0 0 Q (F0 m pc ls (.ref a :: rest)) := by
  obtain ⟨ws, hP, hD, hT, hV, hE⟩ := hW
  obtain ⟨q, fs, g1, g2, g3⟩ := cm_obj hT hta htd
  obtain ⟨v, h4, x, rfl, h5, h6, -⟩ := g3 j _ hft
  refine cm_get B hF hb hP g1 hl h4 hdg (kk x h5 h6 (fun i hi => ?_) ⟨ws, q, fs, hD, hE, g1, h4⟩)
  obtain ⟨q', en', w1, w2⟩ := hV i t j hi a hta
  have w3 := (ck_D1 hD g1 w1).2
  subst w3
  have w2 : fs[j]? = some (.int (pvv i)) := w2
  rw [h4] at w2
  cases w2
  rfl
theorem hr_getR (B : ck_At p s m args meth c D cys k) (hF : ck_LKf LK) (hb : c.code = cc) (hW : ck_Wo D cys ty tg pvT Ex pvv H) {a t ci j cd index t' : Nat} {fts : List ck_AV} (hta : ty a = some t) (htd : tg[t]? = some (.inl (ci, fts))) (hl : LK (k_ow k) index = some (.inl (ci, j, cd))) (hft : fts[j]? = some (.inr (.inl t'))) (hdg : decode cc pc = .ok (.getfield index, 3))
    (kk : ∀ a' : Nat, ty a' = some t' → hr_xo ty Ex a ci j (.ref a') → W p l e R s m args below meth c H locs 0 0 Q (F0 m (pc + 3) ls (.ref a' :: rest))) : W p l e R s m args below meth c H locs 0 0 Q (F0 m pc ls (.ref a :: rest)) := by
  obtain ⟨ws, hP, hD, hT, hV, hE⟩ := hW
  obtain ⟨q, fs, g1, g2, g3⟩ := cm_obj hT hta htd
  obtain ⟨v, h4, x, rfl, h5⟩ := g3 j _ hft
  exact cm_get B hF hb hP g1 hl h4 hdg (kk x h5 ⟨ws, q, fs, hD, hE, g1, h4⟩)
theorem hr_getL (B : ck_At p s m args meth c D cys k) (hF : ck_LKf LK) (hb : c.code = cc) (hW : ck_Wo D cys ty tg pvT Ex pvv H) {a t ci j cd index : Nat} {fts : List ck_AV} (hta : ty a = some t) (htd : tg[t]? = some (.inl (ci, fts))) (hl : LK (k_ow k) index = some (.inl (ci, j, cd))) (hft : fts[j]? = some (.inr (.inr ()))) (hdg : decode cc pc = .ok (.getfield index, 3))
    (kk : ∀ z : Int64, W p l e R s m args below meth c H locs 0 0 Q (F0 m (pc + 3) ls (.long z :: rest))) : W p l e R s m args below meth c H locs 0 0 Q (F0 m pc ls (.ref a :: rest)) := by
  obtain ⟨ws, hP, hD, hT, hV, hE⟩ := hW
  obtain ⟨q, fs, g1, g2, g3⟩ := cm_obj hT hta htd
  obtain ⟨v, h4, x, rfl⟩ := g3 j _ hft
  exact cm_get B hF hb hP g1 hl h4 hdg (kk x)
theorem hr_XT : ck_ExP ty (fun _ => []) (fun _ => True) := fun _ _ _ _ _ _ _ _ _ _ _ => True.intro
theorem hr_putG (B : ck_At p s m args meth c D cys k) (hF : ck_LKf LK) (hb : c.code = cc) (hU : ck_uq ty pvT) (hW : ck_Wo D cys ty tg pvT Ex pvv H) (hS : va_S (ck_own ty) H0 H locs) {a t ci j cd index : Nat} {fts : List ck_AV} {lo hi : Int} (hta : ty a = some t) (htd : tg[t]? = some (.inl (ci, fts))) (hl : LK (k_ow k) index = some (.inl (ci, j, cd))) (hft : fts[j]? = some (.inl (lo, hi, []))) {x : Int32} (h1 : lo ≤ x.toInt) (h2 : x.toInt ≤ hi) (hcd : cd = 0 ∨ cd = 1 ∧ 0 ≤ x.toInt ∧ x.toInt ≤ 1)
    (hE : ∀ (ws : va_W) (q : Nat) (fs : List Value), va_D (ck_own ty) ws → fs.length = fts.length → Ex ws → ws[q]? = some (a, .inr (ci, fs)) → Ex' (ws.set q (a, .inr (ci, fs.set j (.int x))))) (hdg : decode cc pc = .ok (.putfield index, 3))
    (kk : ∀ (H1 : Heap) (locs1 : List Loc) (pvv' : Nat → Int32), ck_Wo D cys ty tg pvT Ex' pvv' H1 → va_S (ck_own ty) H0 H1 locs1 → (∀ q : Nat, pvT[q]? = some (t, j) → pvv' q = x) → (∀ q : Nat, pvT[q]? ≠ some (t, j) → pvv' q = pvv q) → W p l e R s m args below meth c H1 locs1 0 0 Q (F0 m (pc + 3) ls rest)) : W p l e R s m args below meth c H locs 0 0 Q (F0 m pc ls (.int x :: .ref a :: rest)) := by
  obtain ⟨ws, hP, hD, hT, hV, hX⟩ := hW
  obtain ⟨q, fs, g1, g2, g3⟩ := cm_obj hT hta htd
  have hjl : j < fs.length := by rw [g2]; exact (List.getElem?_eq_some_iff.mp hft).1
  refine cm_put B hF hb hP hD hS g1 hl hcd hjl hdg (fun H1 locs1 hP1 hD1 hS1 => ?_)
  obtain ⟨n1, n2, -⟩ := ck_set (Ex := fun _ => True) (prot := fun _ => []) (en' := .inr (ci, fs.set j (.int x))) (pvv' := fun i => if pvT[i]? = some (t, j) then x else pvv i) hD hT hV True.intro hr_XT g1 hta htd ⟨fs.set j (.int x), rfl, by rw [List.length_set]; exact g2, fun k' ft' hk' => by
      by_cases hkk : j = k'
      · subst hkk
        rw [hft] at hk'
        cases hk'
        exact ⟨_, by rw [List.getElem?_set_self hjl], x, rfl, h1, h2, fun d h => nomatch h⟩
      · obtain ⟨v', w1, w2⟩ := g3 k' ft' hk'
        exact ⟨v', by rw [List.getElem?_set_ne hkk]; exact w1, w2⟩⟩
    ⟨rfl, by rw [List.length_set], fun k' hk' => by obtain ⟨_, h, -⟩ := hk'; cases h⟩
    (fun i t' k' hj => ⟨fun htt => by
      subst htt
      refine ⟨fun a' h' => hU i t' k' hj a a' hta h', ?_⟩
      show (fs.set j (.int x))[k']? = some (.int (if pvT[i]? = some (t', j) then x else pvv i))
      by_cases hkk : j = k'
      · subst hkk
        rw [List.getElem?_set_self hjl, if_pos hj]
      · rw [List.getElem?_set_ne hkk]
        have hne : pvT[i]? ≠ some (t', j) := by rw [hj]; intro z; cases z; exact hkk rfl
        rw [if_neg hne]
        obtain ⟨q', en', w1, w2⟩ := hV i t' k' hj a hta
        have w3 := (ck_D1 hD g1 w1).2
        subst w3
        exact w2, fun htt => by
      have hne : pvT[i]? ≠ some (t, j) := by rw [hj]; intro z; cases z; exact htt rfl
      rw [if_neg hne]⟩)
  exact kk H1 locs1 _ ⟨_, hP1, hD1, n1, n2, hE ws q fs hD g2 hX g1⟩ hS1 (fun q hq => by rw [if_pos hq]) (fun q hq => by rw [if_neg hq])
theorem hr_putN (B : ck_At p s m args meth c D cys k) (hF : ck_LKf LK) (hb : c.code = cc) (hU : ck_uq ty pvT) (hW : ck_Wo D cys ty tg pvT Ex pvv H) (hS : va_S (ck_own ty) H0 H locs) {a t ci j cd index : Nat} {fts : List ck_AV} {lo hi : Int} (hta : ty a = some t) (htd : tg[t]? = some (.inl (ci, fts))) (hl : LK (k_ow k) index = some (.inl (ci, j, cd))) (hft : fts[j]? = some (.inl (lo, hi, []))) {x : Int32} (h1 : lo ≤ x.toInt) (h2 : x.toInt ≤ hi) (hcd : cd = 0 ∨ cd = 1 ∧ 0 ≤ x.toInt ∧ x.toInt ≤ 1)
    (hE : ∀ (ws : va_W) (q : Nat) (fs : List Value), va_D (ck_own ty) ws → fs.length = fts.length → Ex ws → ws[q]? = some (a, .inr (ci, fs)) → Ex' (ws.set q (a, .inr (ci, fs.set j (.int x))))) (hnf : ck_nfr pvT t j j = true) (hdg : decode cc pc = .ok (.putfield index, 3))
    (kk : ∀ (H1 : Heap) (locs1 : List Loc), ck_Wo D cys ty tg pvT Ex' pvv H1 → va_S (ck_own ty) H0 H1 locs1 → W p l e R s m args below meth c H1 locs1 0 0 Q (F0 m (pc + 3) ls rest)) : W p l e R s m args below meth c H locs 0 0 Q (F0 m pc ls (.int x :: .ref a :: rest)) :=
  hr_putG B hF hb hU hW hS hta htd hl hft h1 h2 hcd hE hdg (fun H1 locs1 pvv' a1 a2 _ a4 => by
    have e : pvv' = pvv := funext (fun q => a4 q (ck_nfr_ok hnf (Nat.le_refl _) (Nat.le_refl _) q))
    subst e
    exact kk H1 locs1 a1 a2)
theorem hr_updE {pvv' : Nat → Int32} {q0 : Nat} {r : Nat × Nat} {x : Int32} (hI : ∀ (i j : Nat) (q : Nat × Nat), pvT[i]? = some q → pvT[j]? = some q → i = j) (hq0 : pvT[q0]? = some r) (h1 : ∀ q : Nat, pvT[q]? = some r → pvv' q = x) (h2 : ∀ q : Nat, pvT[q]? ≠ some r → pvv' q = pvv q) : pvv' = upd pvv q0 x := by
  funext q
  by_cases e : q = q0
  · subst e
    rw [pk_us]
    exact h1 _ hq0
  · rw [pk_un e]
    exact h2 q (fun h => e (hI q q0 _ h hq0))
theorem hr_putP (B : ck_At p s m args meth c D cys k) (hF : ck_LKf LK) (hb : c.code = cc) (hU : ck_uq ty pvT) (hW : ck_Wo D cys ty tg pvT Ex pvv H) (hS : va_S (ck_own ty) H0 H locs) {a t ci j cd index : Nat} {fts : List ck_AV} {lo hi : Int} (hta : ty a = some t) (htd : tg[t]? = some (.inl (ci, fts))) (hl : LK (k_ow k) index = some (.inl (ci, j, cd))) (hft : fts[j]? = some (.inl (lo, hi, []))) {x : Int32} (h1 : lo ≤ x.toInt) (h2 : x.toInt ≤ hi) (hcd : cd = 0 ∨ cd = 1 ∧ 0 ≤ x.toInt ∧ x.toInt ≤ 1)
    (hE : ∀ (ws : va_W) (q : Nat) (fs : List Value), va_D (ck_own ty) ws → fs.length = fts.length → Ex ws → ws[q]? = some (a, .inr (ci, fs)) → Ex' (ws.set q (a, .inr (ci, fs.set j (.int x))))) (hI : ∀ (i j : Nat) (q : Nat × Nat), pvT[i]? = some q → pvT[j]? = some q → i = j) {q0 : Nat} (hq0 : pvT[q0]? = some (t, j)) (hdg : decode cc pc = .ok (.putfield index, 3))
    (kk : ∀ (H1 : Heap) (locs1 : List Loc), ck_Wo D cys ty tg pvT Ex' (upd pvv q0 x) H1 → va_S (ck_own ty) H0 H1 locs1 → W p l e R s m args below meth c H1 locs1 0 0 Q (F0 m (pc + 3) ls rest)) : W p l e R s m args below meth c H locs 0 0 Q (F0 m pc ls (.int x :: .ref a :: rest)) :=
  hr_putG B hF hb hU hW hS hta htd hl hft h1 h2 hcd hE hdg (fun H1 locs1 pvv' a1 a2 a3 a4 => by
    have e : pvv' = upd pvv q0 x := hr_updE hI hq0 a3 a4
    subst e
    exact kk H1 locs1 a1 a2)
theorem hr_iald (B : ck_At p s m args meth c D cys k) (hb : c.code = cc) (hW : ck_Wo D cys ty tg pvT Ex pvv H) {a t n et : Nat} {sg : List (Nat × Int × Int)} (hta : ty a = some t) (htd : tg[t]? = some (.inr (0, n, sg, et))) {i : Int32} (h0 : 0 ≤ i.toInt) (h1 : i.toInt < n) (hdg : decode cc pc = .ok (.iaload, 1))
    (kk : ∀ z : Int32, ck_in sg i.toInt.toNat z → (∀ q : Nat, pvT[q]? = some (t, i.toInt.toNat) → z = pvv q) → hr_xa ty Ex a (cys 0) n i.toInt.toNat z → W p l e R s m args below meth c H locs 0 0 Q (F0 m (pc + 1) ls (.int z :: rest))) : W p l e R s m args below meth c H locs 0 0 Q (F0 m pc ls (.int i :: .ref a :: rest)) := by
  obtain ⟨ws, hP, hD, hT, hV, hE⟩ := hW
  obtain ⟨q, f, g1, g2⟩ := ck_arrI hT hta htd (by omega)
  refine va_iald B.1 hb B.2.2.2.2.2.2.2.1 hP q 0 g1 rfl (ck_vin h0 h1) hdg (kk _ (g2 i.toInt.toNat (by omega)) (fun j hj => ?_) ⟨ws, q, f, hD, hE, g1, rfl⟩)
  obtain ⟨q', en', w1, w2⟩ := hV j t _ hj a hta
  have w3 := (ck_D1 hD g1 w1).2
  subst w3
  exact w2
theorem hr_zald (B : ck_At p s m args meth c D cys k) (hb : c.code = cc) (hW : ck_Wo D cys ty tg pvT Ex pvv H) {a t n et : Nat} {sg : List (Nat × Int × Int)} (hta : ty a = some t) (htd : tg[t]? = some (.inr (2, n, sg, et))) {i : Int32} (h0 : 0 ≤ i.toInt) (h1 : i.toInt < n) (hdg : decode cc pc = .ok (.baload, 1))
    (kk : ∀ z : Int32, ck_in sg i.toInt.toNat z → (∀ q : Nat, pvT[q]? = some (t, i.toInt.toNat) → z = pvv q) → hr_xa ty Ex a (cys 2) n i.toInt.toNat z → W p l e R s m args below meth c H locs 0 0 Q (F0 m (pc + 1) ls (.int z :: rest))) : W p l e R s m args below meth c H locs 0 0 Q (F0 m pc ls (.int i :: .ref a :: rest)) := by
  obtain ⟨ws, hP, hD, hT, hV, hE⟩ := hW
  obtain ⟨q, f, g1, g2⟩ := ck_arrI hT hta htd (by omega)
  refine va_zald B.1 hb B.2.2.2.2.2.2.2.1 hP q 2 g1 rfl (ck_vin h0 h1) hdg (kk _ (g2 i.toInt.toNat (by omega)) (fun j hj => ?_) ⟨ws, q, f, hD, hE, g1, rfl⟩)
  obtain ⟨q', en', w1, w2⟩ := hV j t _ hj a hta
  have w3 := (ck_D1 hD g1 w1).2
  subst w3
  exact w2
theorem hr_stI {ws : va_W} {a t kd n et q : Nat} {sg : List (Nat × Int × Int)} {f : Nat → Int32} {i : Nat} {x : Int32} (hU : ck_uq ty pvT) (hD : va_D (ck_own ty) ws) (hT : ck_typed ty cys tg ws) (hV : ck_pvs ty pvT pvv ws) (hta : ty a = some t) (htd : tg[t]? = some (.inr (kd, n, sg, et))) (hkd : kd < 3) (g1 : ws[q]? = some (a, .inl (cys kd, n, .inl f))) (g2 : ∀ j, j < n → ck_in sg j (f j)) (hx : ck_in sg i x) :
    ∃ pvv' : Nat → Int32, (ck_typed ty cys tg (ws.set q (a, .inl (cys kd, n, .inl (upd f i x)))) ∧ ck_pvs ty pvT pvv' (ws.set q (a, .inl (cys kd, n, .inl (upd f i x))))) ∧ (∀ j : Nat, pvT[j]? = some (t, i) → pvv' j = x) ∧ (∀ j : Nat, pvT[j]? ≠ some (t, i) → pvv' j = pvv j) := by
  obtain ⟨pvv', ⟨n1, n2, -⟩, n4, n5⟩ := ck_stI (Ex := fun _ => True) (prot := fun _ => []) (i := i) (x := x) hU hD hT hV True.intro hr_XT hta htd hkd g1 g2 hx (by rintro ⟨_, h, -⟩; cases h)
  exact ⟨pvv', ⟨n1, n2⟩, n4, n5⟩
theorem hr_iastG (B : ck_At p s m args meth c D cys k) (hb : c.code = cc) (hU : ck_uq ty pvT) (hW : ck_Wo D cys ty tg pvT Ex pvv H) (hS : va_S (ck_own ty) H0 H locs) {a t n et : Nat} {sg : List (Nat × Int × Int)} (hta : ty a = some t) (htd : tg[t]? = some (.inr (0, n, sg, et))) {i x : Int32} (h0 : 0 ≤ i.toInt) (h1 : i.toInt < n) (hx : ck_in sg i.toInt.toNat x)
    (hE : ∀ (ws : va_W) (q : Nat) (f : Nat → Int32), va_D (ck_own ty) ws → Ex ws → ws[q]? = some (a, .inl (cys 0, n, .inl f)) → Ex' (ws.set q (a, .inl (cys 0, n, .inl (upd f i.toInt.toNat x))))) (hdg : decode cc pc = .ok (.iastore, 1))
    (kk : ∀ (H1 : Heap) (locs1 : List Loc) (pvv' : Nat → Int32), ck_Wo D cys ty tg pvT Ex' pvv' H1 → va_S (ck_own ty) H0 H1 locs1 → (∀ q : Nat, pvT[q]? = some (t, i.toInt.toNat) → pvv' q = x) → (∀ q : Nat, pvT[q]? ≠ some (t, i.toInt.toNat) → pvv' q = pvv q) → W p l e R s m args below meth c H1 locs1 0 0 Q (F0 m (pc + 1) ls rest)) : W p l e R s m args below meth c H locs 0 0 Q (F0 m pc ls (.int x :: .int i :: .ref a :: rest)) := by
  obtain ⟨ws, hP, hD, hT, hV, hX⟩ := hW
  obtain ⟨q, f, g1, g2⟩ := ck_arrI hT hta htd (by omega)
  refine va_iast B.1 hb B.2.2.2.2.2.2.2.1 hP hD hS q 0 g1 rfl (ck_vin h0 h1) hdg (fun H1 locs1 hP1 hD1 hS1 => ?_)
  obtain ⟨pvv', ⟨n1, n2⟩, n4, n5⟩ := hr_stI (i := i.toNatClampNeg) (x := x) hU hD hT hV hta htd (by omega) g1 g2 hx
  exact kk H1 locs1 pvv' ⟨_, hP1, hD1, n1, n2, hE ws q f hD hX g1⟩ hS1 n4 n5
theorem hr_iastN (B : ck_At p s m args meth c D cys k) (hb : c.code = cc) (hU : ck_uq ty pvT) (hW : ck_Wo D cys ty tg pvT Ex pvv H) (hS : va_S (ck_own ty) H0 H locs) {a t n et : Nat} {sg : List (Nat × Int × Int)} (hta : ty a = some t) (htd : tg[t]? = some (.inr (0, n, sg, et))) {i x : Int32} (h0 : 0 ≤ i.toInt) (h1 : i.toInt < n) (hx : ck_in sg i.toInt.toNat x)
    (hE : ∀ (ws : va_W) (q : Nat) (f : Nat → Int32), va_D (ck_own ty) ws → Ex ws → ws[q]? = some (a, .inl (cys 0, n, .inl f)) → Ex' (ws.set q (a, .inl (cys 0, n, .inl (upd f i.toInt.toNat x))))) {u v : Nat} (hu : u ≤ i.toInt.toNat) (hv : i.toInt.toNat ≤ v) (hnf : ck_nfr pvT t u v = true) (hdg : decode cc pc = .ok (.iastore, 1))
    (kk : ∀ (H1 : Heap) (locs1 : List Loc), ck_Wo D cys ty tg pvT Ex' pvv H1 → va_S (ck_own ty) H0 H1 locs1 → W p l e R s m args below meth c H1 locs1 0 0 Q (F0 m (pc + 1) ls rest)) : W p l e R s m args below meth c H locs 0 0 Q (F0 m pc ls (.int x :: .int i :: .ref a :: rest)) :=
  hr_iastG B hb hU hW hS hta htd h0 h1 hx hE hdg (fun H1 locs1 pvv' a1 a2 _ a4 => by
    have e : pvv' = pvv := funext (fun q => a4 q (ck_nfr_ok hnf hu hv q))
    subst e
    exact kk H1 locs1 a1 a2)
theorem hr_iastP (B : ck_At p s m args meth c D cys k) (hb : c.code = cc) (hU : ck_uq ty pvT) (hW : ck_Wo D cys ty tg pvT Ex pvv H) (hS : va_S (ck_own ty) H0 H locs) {a t n et : Nat} {sg : List (Nat × Int × Int)} (hta : ty a = some t) (htd : tg[t]? = some (.inr (0, n, sg, et))) {i x : Int32} (h0 : 0 ≤ i.toInt) (h1 : i.toInt < n) (hx : ck_in sg i.toInt.toNat x)
    (hE : ∀ (ws : va_W) (q : Nat) (f : Nat → Int32), va_D (ck_own ty) ws → Ex ws → ws[q]? = some (a, .inl (cys 0, n, .inl f)) → Ex' (ws.set q (a, .inl (cys 0, n, .inl (upd f i.toInt.toNat x))))) (hI : ∀ (i j : Nat) (q : Nat × Nat), pvT[i]? = some q → pvT[j]? = some q → i = j) {q0 w : Nat} (hw : i.toInt.toNat = w) (hq0 : pvT[q0]? = some (t, w)) (hdg : decode cc pc = .ok (.iastore, 1))
    (kk : ∀ (H1 : Heap) (locs1 : List Loc), ck_Wo D cys ty tg pvT Ex' (upd pvv q0 x) H1 → va_S (ck_own ty) H0 H1 locs1 → W p l e R s m args below meth c H1 locs1 0 0 Q (F0 m (pc + 1) ls rest)) : W p l e R s m args below meth c H locs 0 0 Q (F0 m pc ls (.int x :: .int i :: .ref a :: rest)) :=
  hr_iastG B hb hU hW hS hta htd h0 h1 hx hE hdg (fun H1 locs1 pvv' a1 a2 a3 a4 => by
    rw [hw] at a3 a4
    have e : pvv' = upd pvv q0 x := hr_updE hI hq0 a3 a4
    subst e
    exact kk H1 locs1 a1 a2)
theorem hr_zastG (B : ck_At p s m args meth c D cys k) (hb : c.code = cc) (hU : ck_uq ty pvT) (hW : ck_Wo D cys ty tg pvT Ex pvv H) (hS : va_S (ck_own ty) H0 H locs) {a t n et : Nat} {sg : List (Nat × Int × Int)} (hta : ty a = some t) (htd : tg[t]? = some (.inr (2, n, sg, et))) {i x : Int32} (h0 : 0 ≤ i.toInt) (h1 : i.toInt < n) (hx : ck_in sg i.toInt.toNat x) (hx2 : 0 ≤ x.toInt ∧ x.toInt ≤ 1)
    (hE : ∀ (ws : va_W) (q : Nat) (f : Nat → Int32), va_D (ck_own ty) ws → Ex ws → ws[q]? = some (a, .inl (cys 2, n, .inl f)) → Ex' (ws.set q (a, .inl (cys 2, n, .inl (upd f i.toInt.toNat x))))) (hdg : decode cc pc = .ok (.bastore, 1))
    (kk : ∀ (H1 : Heap) (locs1 : List Loc) (pvv' : Nat → Int32), ck_Wo D cys ty tg pvT Ex' pvv' H1 → va_S (ck_own ty) H0 H1 locs1 → (∀ q : Nat, pvT[q]? = some (t, i.toInt.toNat) → pvv' q = x) → (∀ q : Nat, pvT[q]? ≠ some (t, i.toInt.toNat) → pvv' q = pvv q) → W p l e R s m args below meth c H1 locs1 0 0 Q (F0 m (pc + 1) ls rest)) : W p l e R s m args below meth c H locs 0 0 Q (F0 m pc ls (.int x :: .int i :: .ref a :: rest)) := by
  obtain ⟨ws, hP, hD, hT, hV, hX⟩ := hW
  obtain ⟨q, f, g1, g2⟩ := ck_arrI hT hta htd (by omega)
  refine va_zast B.1 hb B.2.2.2.2.2.2.2.1 hP hD hS q 2 g1 rfl (ck_vin h0 h1) hdg (fun H1 locs1 hP1 hD1 hS1 => ?_)
  rw [ck_nb2 hx2] at hP1 hD1
  obtain ⟨pvv', ⟨n1, n2⟩, n4, n5⟩ := hr_stI (i := i.toNatClampNeg) (x := x) hU hD hT hV hta htd (by omega) g1 g2 hx
  exact kk H1 locs1 pvv' ⟨_, hP1, hD1, n1, n2, hE ws q f hD hX g1⟩ hS1 n4 n5
theorem hr_zastN (B : ck_At p s m args meth c D cys k) (hb : c.code = cc) (hU : ck_uq ty pvT) (hW : ck_Wo D cys ty tg pvT Ex pvv H) (hS : va_S (ck_own ty) H0 H locs) {a t n et : Nat} {sg : List (Nat × Int × Int)} (hta : ty a = some t) (htd : tg[t]? = some (.inr (2, n, sg, et))) {i x : Int32} (h0 : 0 ≤ i.toInt) (h1 : i.toInt < n) (hx : ck_in sg i.toInt.toNat x) (hx2 : 0 ≤ x.toInt ∧ x.toInt ≤ 1)
    (hE : ∀ (ws : va_W) (q : Nat) (f : Nat → Int32), va_D (ck_own ty) ws → Ex ws → ws[q]? = some (a, .inl (cys 2, n, .inl f)) → Ex' (ws.set q (a, .inl (cys 2, n, .inl (upd f i.toInt.toNat x))))) {u v : Nat} (hu : u ≤ i.toInt.toNat) (hv : i.toInt.toNat ≤ v) (hnf : ck_nfr pvT t u v = true) (hdg : decode cc pc = .ok (.bastore, 1))
    (kk : ∀ (H1 : Heap) (locs1 : List Loc), ck_Wo D cys ty tg pvT Ex' pvv H1 → va_S (ck_own ty) H0 H1 locs1 → W p l e R s m args below meth c H1 locs1 0 0 Q (F0 m (pc + 1) ls rest)) : W p l e R s m args below meth c H locs 0 0 Q (F0 m pc ls (.int x :: .int i :: .ref a :: rest)) :=
  hr_zastG B hb hU hW hS hta htd h0 h1 hx hx2 hE hdg (fun H1 locs1 pvv' a1 a2 _ a4 => by
    have e : pvv' = pvv := funext (fun q => a4 q (ck_nfr_ok hnf hu hv q))
    subst e
    exact kk H1 locs1 a1 a2)
theorem hr_EO (hX : ck_ExP ty prot Ex) {a t ci j : Nat} {x : Int32} {fts : List ck_AV} (hta : ty a = some t) (hf : ck_fre (prot t) j j = true) : ∀ (ws : va_W) (q : Nat) (fs : List Value), va_D (ck_own ty) ws → fs.length = fts.length → Ex ws → ws[q]? = some (a, .inr (ci, fs)) → Ex (ws.set q (a, .inr (ci, fs.set j (.int x)))) := by
  intro ws q fs hD _ hE hq
  refine hX ws q a t _ _ hD hq hta ⟨rfl, by rw [List.length_set], fun k' hk' => ?_⟩ hE
  have : j ≠ k' := fun z => ck_fre_ok hf (Nat.le_refl _) (Nat.le_refl _) (z ▸ hk')
  dsimp only
  rw [List.getElem?_set_ne this]
theorem hr_EA (hX : ck_ExP ty prot Ex) {a t n kd : Nat} {i x : Int32} (hta : ty a = some t) {u v : Nat} (hu : u ≤ i.toInt.toNat) (hv : i.toInt.toNat ≤ v) (hf : ck_fre (prot t) u v = true) : ∀ (ws : va_W) (q : Nat) (f : Nat → Int32), va_D (ck_own ty) ws → Ex ws → ws[q]? = some (a, .inl (cys kd, n, .inl f)) → Ex (ws.set q (a, .inl (cys kd, n, .inl (upd f i.toInt.toNat x)))) := by
  intro ws q f hD hE hq
  refine hX ws q a t _ _ hD hq hta ⟨rfl, rfl, fun k' hk' => ?_⟩ hE
  have : k' ≠ i.toInt.toNat := fun z => ck_fre_ok hf hu hv (z ▸ hk')
  rw [pk_un this]
def tk (ty : Nat → Option Nat) (pq : Nat → List (Nat × Nat)) (C : Nat → Nat → Int32) (ws : va_W) : Prop := ∀ (a t q : Nat) (en : va_E), ty a = some t → ws[q]? = some (a, en) → ∀ j : Nat, ck_pr (pq t) j → ck_has en j (C t j)
def tk_upd (C : Nat → Nat → Int32) (t j : Nat) (x : Int32) : Nat → Nat → Int32 := fun t' j' => if t' = t ∧ j' = j then x else C t' j'
theorem tk_us {C : Nat → Nat → Int32} {t j : Nat} {x : Int32} : tk_upd C t j x t j = x := by simp [tk_upd]
theorem tk_un {C : Nat → Nat → Int32} {t j t' j' : Nat} {x : Int32} (h : ¬ (t' = t ∧ j' = j)) : tk_upd C t j x t' j' = C t' j' := by simp [tk_upd, h]
theorem tk_unt {C : Nat → Nat → Int32} {t j t' j' : Nat} {x : Int32} (h : t' ≠ t) : tk_upd C t j x t' j' = C t' j' := tk_un (fun q => h q.1)
theorem tk_unj {C : Nat → Nat → Int32} {t j t' j' : Nat} {x : Int32} (h : j' ≠ j) : tk_upd C t j x t' j' = C t' j' := tk_un (fun q => h q.2)
theorem tk_xo {pq : Nat → List (Nat × Nat)} {C : Nat → Nat → Int32} {a t ci j : Nat} {z : Int32} (h : hr_xo ty Ex a ci j (.int z)) (hE : ∀ ws, Ex ws → tk ty pq C ws) (hta : ty a = some t) (hp : ck_fre (pq t) j j = false) : z = C t j := by
  obtain ⟨ws, q, fs, h1, h2, h3, h4⟩ := h
  have hp' : ck_pr (pq t) j := by
    unfold ck_fre at hp
    rw [List.all_eq_false] at hp
    obtain ⟨r, hr, h⟩ := hp
    simp only [Bool.or_eq_true, decide_eq_true_eq] at h
    exact ⟨r, hr, by omega, by omega⟩
  have h5 : fs[j]? = some (.int (C t j)) := hE ws h2 a t q _ hta h3 j hp'
  rw [h4] at h5
  cases h5
  rfl
theorem tk_xa {pq : Nat → List (Nat × Nat)} {C : Nat → Nat → Int32} {a t n i : Nat} {cy : ClassId} {z : Int32} (h : hr_xa ty Ex a cy n i z) (hE : ∀ ws, Ex ws → tk ty pq C ws) (hta : ty a = some t) (hp : ck_pr (pq t) i) : z = C t i := by
  obtain ⟨ws, q, f, h1, h2, h3, h4⟩ := h
  have h5 : f i = C t i := hE ws h2 a t q _ hta h3 i hp
  rw [← h5, h4]
theorem tk_ExP {pq : Nat → List (Nat × Nat)} {C : Nat → Nat → Int32} (hpp : ∀ t j, ck_pr (pq t) j → ck_pr (prot t) j) : ck_ExP ty prot (tk ty pq C) := by
  intro ws q a t en en' hD hq hta hag hk a' t' q' en2 hta' hq' j hj
  by_cases e : q = q'
  · subst e
    have hlt : q < ws.length := (List.getElem?_eq_some_iff.mp hq).1
    rw [List.getElem?_set_self hlt] at hq'
    cases hq'
    rw [hta] at hta'
    cases hta'
    have h1 := hk a t q en hta hq j hj
    have h2 := hpp t j hj
    match en, en', hag, h1 with
    | .inr o1, .inr o2, hag, h1 =>
      have h3 := hag.2.2 j h2
      show o2.2[j]? = some (.int (C t j))
      rw [← h3]
      exact h1
    | .inl a1, .inl a2, hag, h1 =>
      obtain ⟨-, -, h3⟩ := hag
      obtain ⟨b1, b2, b3⟩ := a1
      obtain ⟨d1, d2, d3⟩ := a2
      match b3, d3, h3, h1 with
      | .inl f, .inl g, h3, h1 =>
        have h4 : f j = g j := h3 j h2
        show g j = C t j
        rw [← h4]
        exact h1
  · rw [List.getElem?_set_ne e] at hq'
    exact hk a' t' q' en2 hta' hq' j hj
theorem tk_EO {pq : Nat → List (Nat × Nat)} {C : Nat → Nat → Int32} {a t ci j : Nat} {x : Int32} {fts : List ck_AV} (hta : ty a = some t) (hun : ∀ a', ty a' = some t → a' = a) (hj : j < fts.length) : ∀ (ws : va_W) (q : Nat) (fs : List Value), va_D (ck_own ty) ws → fs.length = fts.length → tk ty pq C ws → ws[q]? = some (a, .inr (ci, fs)) → tk ty pq (tk_upd C t j x) (ws.set q (a, .inr (ci, fs.set j (.int x)))) := by
  intro ws q fs hD hfl hk hq a' t' q' en hta' hq' i hi
  by_cases e : q = q'
  · subst e
    have hlt : q < ws.length := (List.getElem?_eq_some_iff.mp hq).1
    rw [List.getElem?_set_self hlt] at hq'
    cases hq'
    rw [hta] at hta'
    cases hta'
    show (fs.set j (.int x))[i]? = some (.int (tk_upd C t j x t i))
    by_cases ei : i = j
    · subst ei
      rw [List.getElem?_set_self (by omega), tk_us]
    · rw [List.getElem?_set_ne (fun z => ei z.symm), tk_unj ei]
      exact hk a t q _ hta hq i hi
  · rw [List.getElem?_set_ne e] at hq'
    have ht : t' ≠ t := fun z => by
      subst z
      have := hun a' hta'
      subst this
      exact e (ck_D1 hD hq' hq).1
    rw [tk_unt ht]
    exact hk a' t' q' en hta' hq' i hi
theorem tk_EA {pq : Nat → List (Nat × Nat)} {C : Nat → Nat → Int32} {a t n kd : Nat} {i x : Int32} (hta : ty a = some t) (hun : ∀ a', ty a' = some t → a' = a) : ∀ (ws : va_W) (q : Nat) (f : Nat → Int32), va_D (ck_own ty) ws → tk ty pq C ws → ws[q]? = some (a, .inl (cys kd, n, .inl f)) → tk ty pq (tk_upd C t i.toInt.toNat x) (ws.set q (a, .inl (cys kd, n, .inl (upd f i.toInt.toNat x)))) := by
  intro ws q f hD hk hq a' t' q' en hta' hq' j hj
  by_cases e : q = q'
  · subst e
    have hlt : q < ws.length := (List.getElem?_eq_some_iff.mp hq).1
    rw [List.getElem?_set_self hlt] at hq'
    cases hq'
    rw [hta] at hta'
    cases hta'
    show upd f i.toInt.toNat x j = tk_upd C t i.toInt.toNat x t j
    by_cases ei : j = i.toInt.toNat
    · subst ei
      rw [pk_us, tk_us]
    · rw [pk_un ei, tk_unj ei]
      exact hk a t q _ hta hq j hj
  · rw [List.getElem?_set_ne e] at hq'
    have ht : t' ≠ t := fun z => by
      subst z
      have := hun a' hta'
      subst this
      exact e (ck_D1 hD hq' hq).1
    rw [tk_unt ht]
    exact hk a' t' q' en hta' hq' j hj
/-- any contents stand in some table -/
def tk_of (ty : Nat → Option Nat) (ws : va_W) : Prop := True
theorem hr_aI {X : Nat → Int} {lo hi : Int} {z : Int32} (h1 : lo ≤ z.toInt) (h2 : z.toInt ≤ hi) : ck_v ty X (.inl (lo, hi, [])) (.int z) := ⟨z, rfl, h1, h2, fun d h => nomatch h⟩
theorem hr_aF {X : Nat → Int} {z : Int32} : ck_v ty X (.inl (-2147483648, 2147483647, [])) (.int z) := ⟨z, rfl, ck_lo z, ck_hi z, fun d h => nomatch h⟩
theorem hr_aR {X : Nat → Int} {a t : Nat} (h : ty a = some t) : ck_v ty X (.inr (.inl t)) (.ref a) := ⟨a, rfl, h⟩
theorem hr_aL {X : Nat → Int} {z : Int64} : ck_v ty X (.inr (.inr ())) (.long z) := ⟨z, rfl⟩
theorem hr_rvI {lo hi : Int} {ds : List (Nat × Int × Int)} {r : Option Value} (h : ck_rv ty (some (.inl (lo, hi, ds))) r) : ∃ z : Int32, r = some (.int z) ∧ lo ≤ z.toInt ∧ z.toInt ≤ hi := by
  match r, h with
  | some v, h =>
    obtain ⟨z, rfl, h1, h2, -⟩ := h
    exact ⟨z, rfl, h1, h2⟩
theorem hr_rv0 {r : Option Value} (h : ck_rv ty none r) : r = none := by
  match r, h with
  | none, _ => rfl
theorem hr_pv {X : Nat → Int} {P : List ck_AV} {f : Nat → Int32} (h : ck_pvo ty X P f) (j : Nat) {lo hi : Int} {ds : List (Nat × Int × Int)} (hj : P[j]? = some (.inl (lo, hi, ds))) : lo ≤ (f j).toInt ∧ (f j).toInt ≤ hi := by
  obtain ⟨x, e, h1, h2, -⟩ := h j _ hj
  cases e
  exact ⟨h1, h2⟩
theorem hr_pd {P : List ck_AV} {f g : Nat → Int32} (h : ck_pvo ty (ck_XE g) P f) (j q : Nat) {lo hi a b : Int} {ds : List (Nat × Int × Int)} (hj : P[j]? = some (.inl (lo, hi, ds))) (hd : (2 * (1000 + q), a, b) ∈ ds) : a ≤ (f j).toInt - (g q).toInt ∧ (f j).toInt - (g q).toInt ≤ b := by
  obtain ⟨x, e, h1, h2, h3⟩ := h j _ hj
  cases e
  have := h3 _ hd
  unfold ck_XE at this
  dsimp only at this
  rw [show 2 * (1000 + q) / 2 - 1000 = q by omega] at this
  exact this
def ck_std (P post : List ck_AV) : Bool := ck_pre2 (post.map (ck_pvp (ck_addP P 2000))) (post.map (ck_pvp (ck_addP P 2000))) P
theorem hr_self {P : List ck_AV} {f : Nat → Int32} (h : ck_pvo ty (ck_XE f) P f) : ck_pvo ty (ck_XE f) (ck_addP P 2000) f := ck_addP_ok h (fun j => by unfold ck_XE; rw [show (2000 + 2 * j) / 2 - 1000 = j by omega])
theorem hr_std {P post : List ck_AV} {f g : Nat → Int32} (h : ck_pvo ty (ck_XE f) P f) (hp : ck_pvo ty (ck_XE f) post g) (hc : ck_std P post = true) : ck_pvo ty (ck_XE g) P g := by
  have h1 : ck_pvo ty (ck_XE f) (post.map (ck_pvp (ck_addP P 2000))) g := by
    intro j av hj
    rw [List.getElem?_map] at hj
    cases hq : post[j]? with
    | none => rw [hq] at hj; cases hj
    | some bv =>
      rw [hq] at hj
      cases hj
      exact ck_pvp_ok (hr_self h) (hp j bv hq)
  exact ck_pre2_ok h1 hc h1
/-- followed places that a contract leaves as they were -/
def ck_same1 (post : List ck_AV) (j : Nat) : Bool := match post[j]? with
  | some (.inl r) => r.2.2.any (fun d => d.1 == 2 * (1000 + j) && decide (d.2.1 = 0) && decide (d.2.2 = 0))
  | _ => false
theorem hr_same1 {post : List ck_AV} {f g : Nat → Int32} (hp : ck_pvo ty (ck_XE f) post g) {j : Nat} (h : ck_same1 post j = true) : g j = f j := by
  unfold ck_same1 at h
  split at h
  · next r hr =>
    obtain ⟨x, e, h1, h2, h3⟩ := hp j _ hr
    cases e
    obtain ⟨d, hd, h4⟩ := List.any_eq_true.mp h
    simp only [Bool.and_eq_true, beq_iff_eq, decide_eq_true_eq] at h4
    have := h3 d hd
    rw [h4.1.1] at this
    unfold ck_XE at this
    rw [show 2 * (1000 + j) / 2 - 1000 = j by omega] at this
    exact Int32.toInt_inj.mp (by omega)
  · cases h
def ck_sameA (n : Nat) (post : List ck_AV) : Bool := (List.range n).all (ck_same1 post)
theorem hr_sameA {post : List ck_AV} {f g : Nat → Int32} {n : Nat} (hp : ck_pvo ty (ck_XE f) post g) (hn : pvT.length = n) (h : ck_sameA n post = true) : ∀ (j : Nat) (q : Nat × Nat), pvT[j]? = some q → g j = f j := by
  intro j q hj
  have : j < pvT.length := (List.getElem?_eq_some_iff.mp hj).1
  exact hr_same1 hp (List.all_eq_true.mp h j (List.mem_range.mpr (by omega)))
def hr_Q (D : va_G) (cys : Nat → ClassId) (ty : Nat → Option Nat) (tg : List ck_TD) (pvT : List (Nat × Nat)) (P : Option Value → (Nat → Int32) → (va_W → Prop) → Prop) : Array Value → State → Outcome → State → Prop := fun _ st oc t => (∃ (r : Option Value) (pvv' : Nat → Int32) (E' : va_W → Prop), oc = .returned r ∧ P r pvv' E' ∧ ck_Wo D cys ty tg pvT E' pvv' t.heap) ∧ va_F (ck_own ty) st t
variable {P : Option Value → (Nat → Int32) → (va_W → Prop) → Prop} {vs : List Value}
def hr_Met (l : Launch) (D : va_G) (cys : Nat → ClassId) (ty : Nat → Option Nat) (tg : List ck_TD) (pvT : List (Nat × Nat)) (Ex : va_W → Prop) (k : ck_K) (vs : List Value) (pvv : Nat → Int32) (P : Option Value → (Nat → Int32) → (va_W → Prop) → Prop) : Prop := Met l (k_y k) (ck_ws k) (ck_rm k) (va_Pc vs (ck_B D cys ty tg pvT Ex pvv)) (hr_Q D cys ty tg pvT P) 0 0 (ck_own ty)
theorem hr_enter (hy : plainName (k_y k).cls = true) (ho : ck_R (k_ow k) = (k_y k).cls) (g1 : ((k_pa k).map ck_cat).sum ≤ k_ml k) (ha : ck_args ty (k_pa k) vs)
    (h : ∀ (p : Program) (e : Env) (s : State) (m : MethodId) (below : List Frame) (meth : Method) (c : Code) (ls : Array Slot), ck_At p s m vs.toArray meth c D cys k → lv_has ls (k_ml k) (lv_args 0 vs) → ck_Wo D cys ty tg pvT Ex pvv s.heap → W p l e (ck_rm k) s m vs.toArray below meth c s.heap [] 0 0 (MQ below (hr_Q D cys ty tg pvT P) vs.toArray s 0 0 (ck_own ty)) (F0 m 0 ls [])) : hr_Met l D cys ty tg pvT Ex k vs pvv P := by
  refine Met.ofW (cc := k_cc k) (maxL := k_ml k) (ret := k_rt k) hy rfl ?_
  intro p e s m args below meth c s₁ B hml hv
  obtain ⟨rfl, hW, hK, hN⟩ := hv
  have hts := atoms_spec (ws := ck_ws k) B.pre
  have hown : s.vm.findClass (ck_R (k_ow k)) = some m.cls := by rw [ho]; exact findClass_of_methodNamed B.named
  have hlen := ck_sl_len ha
  have hl := lv_entry vs (n := k_ml k) (by rw [hlen]; exact g1)
  rw [lg_entry_eq]
  generalize (lg_sl vs ++ List.replicate (k_ml k - (lg_sl vs).length) Slot.unset).toArray = ls at hl ⊢
  exact h p e s m below meth c ls ⟨B.exec, B.bytes, hml, B.returns, B.notSynchronized, hts, hown, hK, hN⟩ hl hW
theorem hr_after {a : Array Value} {st0 : List Value} (hr : va_Run p l e R s m args below meth c H locs 0 0 0 0 (F0 m pc ls st0) rest (hr_Q D cys ty tg pvT P a) (ck_own ty)) (hS : va_S (ck_own ty) H0 H locs)
    (kk : ∀ (r : Option Value) (pvv' : Nat → Int32) (E' : va_W → Prop) (H1 : Heap) (locs1 : List Loc), P r pvv' E' → ck_Wo D cys ty tg pvT E' pvv' H1 → va_S (ck_own ty) H0 H1 locs1 → W p l e R s m args below meth c H1 locs1 0 0 Q (F0 m (pc + 3) ls (r.toList ++ rest))) : W p l e R s m args below meth c H locs 0 0 Q (F0 m pc ls st0) := by
  intro T hT X
  obtain ⟨v, st₀, t, T', L, h0, X', hL, e1, e2, ⟨⟨r, pvv', E', hv, hp, hb⟩, hz, hk⟩, st⟩ := hr T hT X
  cases hv
  rw [h0] at hz hk
  obtain ⟨t2, a1, b1⟩ := kk v pvv' E' T'.heap (locs ++ L) hp (by rw [e1]; exact hb)
    ⟨Nat.le_trans hS.1 (by rw [e1]; exact hz), fun q h1 h2 => by rw [e1, hk q (Nat.lt_of_lt_of_le h1 hS.1) h2]; exact hS.2.1 q h1 h2, fun q hq => by
      rcases List.mem_append.mp hq with h | h
      · exact hS.2.2 q h
      · exact hL q h⟩ T' rfl X'
  exact ⟨t2, st t2 a1, b1⟩
theorem hr_callV (B : ck_At p s m args meth c D cys k) (hR : R = ck_rm k) (hb : c.code = cc) {lv : List (Nat × Value)} (hl : lv_has ls (k_ml k) lv) {kc : ck_K} {ix : Nat} (hm : ck_mOK tg (k_ow k) ix 0 kc) {b : Nat} {As st0 : List Value} (hM : hr_Met l D cys ty tg pvT Ex kc (.ref b :: As) pvv P) (ha : ck_args ty (k_pa kc) (.ref b :: As)) (hW : ck_Wo D cys ty tg pvT Ex pvv H) (hS : va_S (ck_own ty) H0 H locs) (hvs : st0 = As.reverse ++ .ref b :: rest) (hf : k_fr kc + 1 ≤ k_fr k) (hlo : 8 + (k_ml kc + 11) + k_lo kc ≤ k_lo k) (hr8 : (rest.map fun v => v.category).sum ≤ 8) (hdg : decode cc pc = .ok (.invokevirtual ix, 3))
    (kk : ∀ (r : Option Value) (pvv' : Nat → Int32) (E' : va_W → Prop) (H1 : Heap) (locs1 : List Loc), P r pvv' E' → ck_Wo D cys ty tg pvT E' pvv' H1 → va_S (ck_own ty) H0 H1 locs1 → W p l e R s m args below meth c H1 locs1 0 0 Q (F0 m (pc + 3) ls (r.toList ++ rest))) : W p l e R s m args below meth c H locs 0 0 Q (F0 m pc ls st0) := by
  obtain ⟨B1, B2, B3, B4, B5, hts, hown, hK, hNw⟩ := B
  have hin : ∀ w ∈ wsL_law0, w ∈ ck_ws k := fun w hw => List.mem_cons_of_mem _ hw
  obtain ⟨m1, m2, m3, m4, -⟩ := hm
  obtain ⟨w1, w2, w3, t, ci, fts, r, pa, p1, p2, p3, p4, p5⟩ := m4 rfl
  have hG : GoodIn (ck_ws k) (ck_ws kc) := fun w hw => by
    rcases List.mem_cons.mp hw with hw | hw
    · subst hw; exact ⟨hin _ m1, ck_good _ m1⟩
    · exact ⟨hin _ hw, ck_good _ hw⟩
  rw [p1] at ha
  have hvl := ck_args_len ha.2
  obtain ⟨⟨b', e', hb0⟩, -⟩ := ha
  cases e'
  obtain ⟨ws, hP, hD, hT, hV, hE⟩ := id hW
  obtain ⟨q, en, td, g1, g2, g3⟩ := hT b t hb0
  rw [p2] at g2
  cases g2
  obtain ⟨fs, rfl, -, -⟩ := g3
  have hrun := va_runV (p := p) (l := l) (e := e) (R := R) (s := s) (m := m) (args := args) (below := below) (meth := meth) (c := c) (H := H) (locs := locs) (cells := 0) (slots := 0) (g := F0 m pc ls st0) (As := As) (rest := rest) (b := b) (nL := k_ml k) (own := ck_R (k_ow k)) (index := ix) (bytes := k_cc kc) (maxL := k_ml kc) (ret := k_rt kc) (n := pa.length) ⟨B1, hb, B3, hown, hts⟩ hM ⟨callB_of pa.length hts hG rfl rfl rfl (hts _ (hin _ m2)) (hts _ (hin _ w1)) ⟨m3.1, m3.2, p5⟩ ⟨by rw [hR]; exact hf, by rw [hR]; exact hlo⟩, hts _ (hin _ w2), hts _ (hin _ w3)⟩
    ⟨ck_blind _, by have := va_recv hK hP p3 g1; rw [p4] at this; exact this, fun U hU hWm => ⟨rfl, by rw [hU]; exact hW, va_K.moved hWm.alike hK, ck_nest_warm hWm hNw⟩⟩ rfl hvl hl.1 hvs (lv_room hr8) hdg ⟨Nat.zero_le _, Nat.zero_le _⟩
  exact hr_after hrun hS kk
theorem hr_iret (B : ck_At p s m args meth c D cys k) (hb : c.code = cc) (hrt : k_rt k = some .int) {x : Int32} (hq : P (some (.int x)) pvv Ex) (hW : ck_Wo D cys ty tg pvT Ex pvv H) (hS : va_S (ck_own ty) s.heap H locs) (hdg : decode cc pc = .ok (.ireturn, 1)) : W p l e R s m args below meth c H locs 0 0 (MQ below (hr_Q D cys ty tg pvT P) args s 0 0 (ck_own ty)) (F0 m pc ls [.int x]) :=
  W.zret B.1 hb (B.2.2.2.1.trans hrt) rfl (fun t ht _ => ⟨⟨_, pvv, Ex, rfl, hq, by rw [ht]; exact hW⟩, hS.F ht⟩) hS.2.2 hdg B.2.2.2.2.1
theorem hr_zret (B : ck_At p s m args meth c D cys k) (hb : c.code = cc) (hrt : k_rt k = some .boolean) {x : Int32} (hx : 0 ≤ x.toInt ∧ x.toInt ≤ 1) (hq : P (some (.int x)) pvv Ex) (hW : ck_Wo D cys ty tg pvT Ex pvv H) (hS : va_S (ck_own ty) s.heap H locs) (hdg : decode cc pc = .ok (.ireturn, 1)) : W p l e R s m args below meth c H locs 0 0 (MQ below (hr_Q D cys ty tg pvT P) args s 0 0 (ck_own ty)) (F0 m pc ls [.int x]) :=
  W.zret B.1 hb (B.2.2.2.1.trans hrt) (ck_nbool hx).1 (fun t ht _ => ⟨⟨_, pvv, Ex, rfl, hq, by rw [ht]; exact hW⟩, hS.F ht⟩) hS.2.2 hdg B.2.2.2.2.1
theorem hr_vret (B : ck_At p s m args meth c D cys k) (hb : c.code = cc) (hrt : k_rt k = none) (hq : P none pvv Ex) (hW : ck_Wo D cys ty tg pvT Ex pvv H) (hS : va_S (ck_own ty) s.heap H locs) (hdg : decode cc pc = .ok (.return_, 1)) : W p l e R s m args below meth c H locs 0 0 (MQ below (hr_Q D cys ty tg pvT P) args s 0 0 (ck_own ty)) (F0 m pc ls []) :=
  W.vret B.1 hb (B.2.2.2.1.trans hrt) (fun t ht _ => ⟨⟨_, pvv, Ex, rfl, hq, by rw [ht]; exact hW⟩, hS.F ht⟩) hS.2.2 hdg B.2.2.2.2.1
end HR
end
section
/-! BY HAND, 3: followed places changed one by one. -/
def ck_noq (P : List ck_AV) (q : Nat) : Bool := P.all (fun av => match av with
  | .inl r => r.2.2.all (fun d => decide (d.1 / 2 - 1000 ≠ q))
  | _ => true)
def ck_isF (LK : Nat → Nat → Option ck_En) (o ix ci j cd : Nat) : Bool := match LK o ix with
  | some (.inl q) => decide (q.1 = ci) && decide (q.2.1 = j) && decide (q.2.2 = cd)
  | _ => false
theorem isF {LK : Nat → Nat → Option ck_En} {o ix ci j cd : Nat} (h : ck_isF LK o ix ci j cd = true) : LK o ix = some (.inl (ci, j, cd)) := by
  unfold ck_isF at h
  split at h
  · next q hq =>
    obtain ⟨a, b, c⟩ := q
    simp only [Bool.and_eq_true, decide_eq_true_eq] at h
    obtain ⟨⟨rfl, rfl⟩, rfl⟩ := h
    exact hq
  · cases h
def ck_isM (LK : Nat → Nat → Option ck_En) (o ix kd : Nat) (js : List Nat) : Bool := match LK o ix with
  | some (.inr (.inr (.inr (.inl q)))) => decide (q.1 = kd) && decide (q.2 = js)
  | _ => false
theorem isM {LK : Nat → Nat → Option ck_En} {o ix kd : Nat} {js : List Nat} (h : ck_isM LK o ix kd js = true) : LK o ix = some (.inr (.inr (.inr (.inl (kd, js))))) := by
  unfold ck_isM at h
  split at h
  · next q hq =>
    obtain ⟨a, b⟩ := q
    simp only [Bool.and_eq_true, decide_eq_true_eq] at h
    obtain ⟨rfl, rfl⟩ := h
    exact hq
  · cases h
section HM
variable {ty : Nat → Option Nat} {X : Nat → Int} {pvT : List (Nat × Nat)}
theorem hr_updD {P : List ck_AV} {f : Nat → Int32} {q : Nat} {x : Int32} {lo hi : Int} {ds : List (Nat × Int × Int)} (h : ck_pvo ty (ck_XE f) P f) (hq : P[q]? = some (.inl (lo, hi, ds))) (h1 : lo ≤ x.toInt) (h2 : x.toInt ≤ hi) (hd : ck_d (ck_XE f) x.toInt ds) (hn : ck_noq P q = true) : ck_pvo ty (ck_XE (upd f q x)) P (upd f q x) := by
  have key : ∀ (j : Nat) (r : ck_I), P[j]? = some (.inl r) → ∀ d ∈ r.2.2, ck_XE (upd f q x) d.1 = ck_XE f d.1 := by
    intro j r hj d hd
    have := List.all_eq_true.mp hn _ (List.mem_of_getElem? hj)
    have := of_decide_eq_true (List.all_eq_true.mp this d hd)
    unfold ck_XE
    rw [pk_un this]
  intro j av hj
  by_cases e : j = q
  · subst e
    rw [pk_us]
    have hj' := hj
    rw [hq] at hj
    cases hj
    refine ⟨x, rfl, h1, h2, fun d hd' => ?_⟩
    rw [key j _ hj' d hd']
    exact hd d hd'
  · rw [pk_un e]
    match av, hj with
    | .inl r, hj =>
      obtain ⟨y, ey, a1, a2, a3⟩ := h j _ hj
      refine ⟨y, ey, a1, a2, fun d hd' => ?_⟩
      rw [key j r hj d hd']
      exact a3 d hd'
    | .inr (.inl t), hj => obtain ⟨a, ea, -⟩ := h j _ hj; cases ea
    | .inr (.inr u), hj => obtain ⟨a, ea⟩ := h j _ hj; cases ea
theorem hr_updS {P : List ck_AV} {f : Nat → Int32} {q : Nat} {x : Int32} {lo hi : Int} (h : ck_pvo ty (ck_XE f) P f) (hq : P[q]? = some (.inl (lo, hi, []))) (h1 : lo ≤ x.toInt) (h2 : x.toInt ≤ hi) (hn : ck_noq P q = true) : ck_pvo ty (ck_XE (upd f q x)) P (upd f q x) := hr_updD h hq h1 h2 (fun d h => nomatch h) hn
/-- by what is known of each place -/
theorem hr_re {P : List ck_AV} {f g : Nat → Int32} (h : ck_pvo ty (ck_XE f) P f) (hs : ∀ j, j < P.length → (g j).toInt = (f j).toInt) (hd : ∀ (j : Nat) (r : ck_I), P[j]? = some (.inl r) → ∀ d ∈ r.2.2, d.1 / 2 - 1000 < P.length) : ck_pvo ty (ck_XE g) P g := by
  intro j av hj
  have hl : j < P.length := (List.getElem?_eq_some_iff.mp hj).1
  have e : g j = f j := Int32.toInt_inj.mp (hs j hl)
  rw [e]
  match av, hj with
  | .inl r, hj =>
    obtain ⟨y, ey, a1, a2, a3⟩ := h j _ hj
    refine ⟨y, ey, a1, a2, fun d hd' => ?_⟩
    have := hs _ (hd j r hj d hd')
    have h3 := a3 d hd'
    unfold ck_XE at h3 ⊢
    rw [this]
    exact h3
  | .inr (.inl t), hj => obtain ⟨a, ea, -⟩ := h j _ hj; cases ea
  | .inr (.inr u), hj => obtain ⟨a, ea⟩ := h j _ hj; cases ea
theorem hr_set1 {P : List ck_AV} {f g : Nat → Int32} {j : Nat} {av : ck_AV} (h : ck_pvo ty X P f) (hv : ck_v ty X av (.int (g j))) (hs : ∀ i, i ≠ j → g i = f i) : ck_pvo ty X (P.set j av) g := by
  intro i bv hi
  by_cases e : i = j
  · subst e
    have hl : i < P.length := by
      have := (List.getElem?_eq_some_iff.mp hi).1
      rw [List.length_set] at this
      exact this
    rw [List.getElem?_set_self hl] at hi
    cases hi
    exact hv
  · rw [List.getElem?_set_ne (fun z => e z.symm)] at hi
    rw [hs i e]
    exact h i bv hi
theorem hr_q {vs : List Value} {qs : List (Nat × Int × Int)} (hq : ∀ q ∈ qs, ∃ x : Int32, vs[q.1]? = some (.int x) ∧ q.2.1 ≤ x.toInt ∧ x.toInt ≤ q.2.2) {i : Nat} {lo hi : Int} {z : Int32} (h : (i, lo, hi) ∈ qs) (hv : vs[i]? = some (.int z)) : lo ≤ z.toInt ∧ z.toInt ≤ hi := by
  obtain ⟨x, h1, h2, h3⟩ := hq _ h
  dsimp only at h1 h2 h3
  rw [hv] at h1
  cases h1
  exact ⟨h2, h3⟩
def pv_onlyB (pvT : List (Nat × Nat)) (t : Nat) (l : List (Nat × Nat)) : Bool := (List.range pvT.length).all (fun j => match pvT[j]? with
  | some (t', k) => decide (t' ≠ t) || l.any (fun r => decide (r.1 = j) && decide (r.2 = k))
  | none => true)
theorem pv_only {t : Nat} {l : List (Nat × Nat)} (h : pv_onlyB pvT t l = true) {j w : Nat} (hj : pvT[j]? = some (t, w)) : (j, w) ∈ l := by
  have hl : j < pvT.length := (List.getElem?_eq_some_iff.mp hj).1
  have h1 := List.all_eq_true.mp h j (List.mem_range.mpr hl)
  rw [hj] at h1
  simp only [ne_eq, not_true, decide_false, Bool.false_or, List.any_eq_true, Bool.and_eq_true, decide_eq_true_eq] at h1
  obtain ⟨r, hr, e1, e2⟩ := h1
  obtain ⟨a, b⟩ := r
  dsimp only at e1 e2
  subst e1 e2
  exact hr
theorem pv_o1 {t a b : Nat} (h : pv_onlyB pvT t [(a, b)] = true) {j w : Nat} (hj : pvT[j]? = some (t, w)) : j = a ∧ w = b := Prod.mk.inj (List.mem_singleton.mp (pv_only h hj))
theorem pv_o2 {t a b a' b' : Nat} (h : pv_onlyB pvT t [(a, b), (a', b')] = true) {j w : Nat} (hj : pvT[j]? = some (t, w)) : (j = a ∧ w = b) ∨ (j = a' ∧ w = b') := by
  rcases List.mem_cons.mp (pv_only h hj) with h | h
  · exact Or.inl (Prod.mk.inj h)
  · exact Or.inr (Prod.mk.inj (List.mem_singleton.mp h))
theorem hr_vd {lo hi : Int} {q : Nat} {z : Int32} {f : Nat → Int32} {a b : Int} (h1 : lo ≤ z.toInt) (h2 : z.toInt ≤ hi) (h3 : a ≤ z.toInt - (f q).toInt) (h4 : z.toInt - (f q).toInt ≤ b) : ck_v ty (ck_XE f) (.inl (lo, hi, [(2 * (1000 + q), a, b)])) (.int z) := by
  refine ⟨z, rfl, h1, h2, fun d hd => ?_⟩
  obtain rfl := List.mem_singleton.mp hd
  unfold ck_XE
  dsimp only
  rw [show 2 * (1000 + q) / 2 - 1000 = q by omega]
  exact ⟨h3, h4⟩
def ck_wkB (P Q : List ck_AV) : Bool := (List.range Q.length).all (fun j => match P[j]?, Q[j]? with
  | some a, some b => ck_le a b
  | _, _ => false)
theorem hr_wk {P Q : List ck_AV} {f : Nat → Int32} (h : ck_pvo ty X P f) (hc : ck_wkB P Q = true) : ck_pvo ty X Q f := by
  intro j av hj
  have hl : j < Q.length := (List.getElem?_eq_some_iff.mp hj).1
  have h1 := List.all_eq_true.mp hc j (List.mem_range.mpr hl)
  rw [hj] at h1
  cases hq : P[j]? with
  | none => rw [hq] at h1; cases h1
  | some a =>
    rw [hq] at h1
    exact ck_le_ok h1 (h j a hq)
theorem cm_a1 {a : ck_AV} {vs : List Value} (h : ck_args ty [a] vs) : ∃ v0, vs = [v0] ∧ ck_v ty (fun _ => 0) a v0 := by
  match vs, h with
  | [v0], h => exact ⟨v0, rfl, h.1⟩
theorem cm_a2 {a b : ck_AV} {vs : List Value} (h : ck_args ty [a, b] vs) : ∃ v0 v1, vs = [v0, v1] ∧ ck_v ty (fun _ => 0) a v0 ∧ ck_v ty (fun _ => 0) b v1 := by
  match vs, h with
  | [v0, v1], h => exact ⟨v0, v1, rfl, h.1, h.2.1⟩
theorem cm_a3 {a b c : ck_AV} {vs : List Value} (h : ck_args ty [a, b, c] vs) : ∃ v0 v1 v2, vs = [v0, v1, v2] ∧ ck_v ty (fun _ => 0) a v0 ∧ ck_v ty (fun _ => 0) b v1 ∧ ck_v ty (fun _ => 0) c v2 := by
  match vs, h with
  | [v0, v1, v2], h => exact ⟨v0, v1, v2, rfl, h.1, h.2.1, h.2.2.1⟩
theorem cm_a4 {a b c d : ck_AV} {vs : List Value} (h : ck_args ty [a, b, c, d] vs) : ∃ v0 v1 v2 v3, vs = [v0, v1, v2, v3] ∧ ck_v ty (fun _ => 0) a v0 ∧ ck_v ty (fun _ => 0) b v1 ∧ ck_v ty (fun _ => 0) c v2 ∧ ck_v ty (fun _ => 0) d v3 := by
  match vs, h with
  | [v0, v1, v2, v3], h => exact ⟨v0, v1, v2, v3, rfl, h.1, h.2.1, h.2.2.1, h.2.2.2.1⟩
end HM
section HN
variable {p : Program} {l : Launch} {e : Env} {R : Room} {s : State} {m : MethodId} {args : Array Value} {below : List Frame} {meth : Method} {c : Code} {H H0 : Heap} {locs : List Loc} {Q : State → Prop} {cc : ByteArray} {pc : Nat} {ls : Array Slot} {rest : List Value}
variable {D : va_G} {cys : Nat → ClassId} {ty : Nat → Option Nat} {tg : List ck_TD} {pvT : List (Nat × Nat)} {Ex : va_W → Prop} {pvv : Nat → Int32} {k : ck_K}
theorem cm_callSN (B : ck_At p s m args meth c D cys k) (hR : R = ck_rm k) (hb : c.code = cc) {lv : List (Nat × Value)} (hl : lv_has ls (k_ml k) lv) {kc : ck_K} {ix : Nat} (hm : ck_mOK tg (k_ow k) ix 2 kc) (hHo : ck_Holds l D cys ty tg pvT Ex kc) {As st0 : List Value} (ha : ck_args ty (k_pa kc) As) (hpr : ck_pvo ty (ck_XE pvv) (k_pr kc) pvv) (hW : ck_Wo D cys ty tg pvT Ex pvv H) (hS : va_S (ck_own ty) H0 H locs) (hvs : st0 = As.reverse ++ rest) (hf : k_fr kc + 1 ≤ k_fr k) (hlo : 8 + (k_ml kc + 11) + k_lo kc ≤ k_lo k) (hr8 : (rest.map fun v => v.category).sum ≤ 8) (hdg : decode cc pc = .ok (.invokestatic ix, 3))
    (kk : ∀ cs ∈ k_cs kc, ∀ (r : Option Value) (pvv' : Nat → Int32) (H1 : Heap) (locs1 : List Loc), ck_caseOK ty cs As pvv pvv' r → ck_Wo D cys ty tg pvT Ex pvv' H1 → va_S (ck_own ty) H0 H1 locs1 → W p l e R s m args below meth c H1 locs1 0 0 Q (F0 m (pc + 3) ls (r.toList ++ rest))) : W p l e R s m args below meth c H locs 0 0 Q (F0 m pc ls st0) := by
  obtain ⟨B1, B2, B3, B4, B5, hts, hown, hK, hNw⟩ := B
  have hin : ∀ w ∈ wsL_law0, w ∈ ck_ws k := fun w hw => List.mem_cons_of_mem _ hw
  obtain ⟨m1, m2, m3, -, -, m4⟩ := hm
  obtain ⟨w1, w2, p5⟩ := m4 rfl
  have hG : GoodIn (ck_ws k) (ck_ws kc) := fun w hw => by
    rcases List.mem_cons.mp hw with hw | hw
    · subst hw; exact ⟨hin _ m1, ck_good _ m1⟩
    · exact ⟨hin _ hw, ck_good _ hw⟩
  have hM := hHo As pvv ha hpr
  have hvl := ck_args_len ha
  have hrun := va_runSN (p := p) (l := l) (e := e) (R := R) (s := s) (m := m) (args := args) (below := below) (meth := meth) (c := c) (H := H) (locs := locs) (cells := 0) (slots := 0) (g := F0 m pc ls st0) (As := As) (rest := rest) (nL := k_ml k) (own := ck_R (k_ow k)) (host := RX11) (index := ix) (bytes := k_cc kc) (maxL := k_ml kc) (ret := k_rt kc) (n := (k_pa kc).length) ⟨B1, hb, B3, hown, hts⟩ hM ⟨va_cnB _ hts hG rfl rfl rfl (hNw _ w1) (hts _ (hin _ m2)) ⟨m3.1, m3.2, p5⟩ ⟨by rw [hR]; exact hf, by rw [hR]; exact hlo⟩, hts _ (hin _ w2), True.intro⟩
    ⟨ck_blind _, fun U hU hWm => ⟨rfl, by rw [hU]; exact hW, va_K.moved hWm.alike hK, ck_nest_warm hWm hNw⟩⟩ rfl hvl hl.1 hvs (lv_room hr8) hdg ⟨Nat.zero_le _, Nat.zero_le _⟩
  exact ck_after hrun hS kk
variable {P : Option Value → (Nat → Int32) → (va_W → Prop) → Prop}
theorem hr_callS (B : ck_At p s m args meth c D cys k) (hR : R = ck_rm k) (hb : c.code = cc) {lv : List (Nat × Value)} (hl : lv_has ls (k_ml k) lv) {kc : ck_K} {ix : Nat} (hm : ck_mOK tg (k_ow k) ix 1 kc) {As st0 : List Value} (hM : hr_Met l D cys ty tg pvT Ex kc As pvv P) (ha : ck_args ty (k_pa kc) As) (hW : ck_Wo D cys ty tg pvT Ex pvv H) (hS : va_S (ck_own ty) H0 H locs) (hvs : st0 = As.reverse ++ rest) (hf : k_fr kc + 1 ≤ k_fr k) (hlo : 8 + (k_ml kc + 11) + k_lo kc ≤ k_lo k) (hr8 : (rest.map fun v => v.category).sum ≤ 8) (hdg : decode cc pc = .ok (.invokestatic ix, 3))
    (kk : ∀ (r : Option Value) (pvv' : Nat → Int32) (E' : va_W → Prop) (H1 : Heap) (locs1 : List Loc), P r pvv' E' → ck_Wo D cys ty tg pvT E' pvv' H1 → va_S (ck_own ty) H0 H1 locs1 → W p l e R s m args below meth c H1 locs1 0 0 Q (F0 m (pc + 3) ls (r.toList ++ rest))) : W p l e R s m args below meth c H locs 0 0 Q (F0 m pc ls st0) := by
  obtain ⟨B1, B2, B3, B4, B5, hts, hown, hK, hNw⟩ := B
  have hin : ∀ w ∈ wsL_law0, w ∈ ck_ws k := fun w hw => List.mem_cons_of_mem _ hw
  obtain ⟨m1, m2, m3, -, m4, -⟩ := hm
  obtain ⟨w1, w2, p5⟩ := m4 rfl
  have hG : GoodIn (ck_ws k) (ck_ws kc) := fun w hw => by
    rcases List.mem_cons.mp hw with hw | hw
    · subst hw; exact ⟨hin _ m1, ck_good _ m1⟩
    · exact ⟨hin _ hw, ck_good _ hw⟩
  have hvl := ck_args_len ha
  have hrun := va_runS (p := p) (l := l) (e := e) (R := R) (s := s) (m := m) (args := args) (below := below) (meth := meth) (c := c) (H := H) (locs := locs) (cells := 0) (slots := 0) (g := F0 m pc ls st0) (As := As) (rest := rest) (nL := k_ml k) (own := ck_R (k_ow k)) (index := ix) (bytes := k_cc kc) (maxL := k_ml kc) (ret := k_rt kc) (n := (k_pa kc).length) ⟨B1, hb, B3, hown, hts⟩ hM ⟨callB_of _ hts hG rfl rfl rfl (hts _ (hin _ m2)) (hts _ (hin _ w1)) ⟨m3.1, m3.2, p5⟩ ⟨by rw [hR]; exact hf, by rw [hR]; exact hlo⟩, hts _ (hin _ w2)⟩
    ⟨ck_blind _, fun U hU hWm => ⟨rfl, by rw [hU]; exact hW, va_K.moved hWm.alike hK, ck_nest_warm hWm hNw⟩⟩ rfl hvl hl.1 hvs (lv_room hr8) hdg ⟨Nat.zero_le _, Nat.zero_le _⟩
  exact hr_after hrun hS kk
end HN
section HO
variable {ty : Nat → Option Nat}
def ck_sameX (n : Nat) (l : List Nat) (post : List ck_AV) : Bool := (List.range n).all (fun j => l.contains j || ck_same1 post j)
theorem hr_sameX {post : List ck_AV} {f g : Nat → Int32} {n : Nat} {l : List Nat} (hp : ck_pvo ty (ck_XE f) post g) (h : ck_sameX n l post = true) : ∀ j, j < n → j ∉ l → g j = f j := by
  intro j hj hn
  have h1 := List.all_eq_true.mp h j (List.mem_range.mpr hj)
  rw [Bool.or_eq_true] at h1
  rcases h1 with h1 | h1
  · exact absurd (by simpa using h1) hn
  · exact hr_same1 hp h1
def ck_mkB (n : Nat) (P post : List ck_AV) (l : List Nat) : Bool := decide (post.length ≤ n) && (List.range post.length).all (fun j => l.contains j || (match (ck_addP P 2000)[j]?, post[j]? with
  | some a, some b => ck_le a b
  | _, _ => false))
/-- the end's list of followed places: as they were, but for those of l -/
theorem hr_mk {P post : List ck_AV} {f g : Nat → Int32} {n : Nat} (l : List Nat) (hp : ck_pvo ty (ck_XE f) P f) (hs : ∀ j, j < n → j ∉ l → g j = f j) (hb : ck_mkB n P post l = true) (hl : ∀ j, j ∈ l → ∀ av, post[j]? = some av → ck_v ty (ck_XE f) av (.int (g j))) : ck_pvo ty (ck_XE f) post g := by
  intro j av hj
  have hjl : j < post.length := (List.getElem?_eq_some_iff.mp hj).1
  simp only [ck_mkB, Bool.and_eq_true, decide_eq_true_eq] at hb
  have h1 := List.all_eq_true.mp hb.2 j (List.mem_range.mpr hjl)
  by_cases hm : j ∈ l
  · exact hl j hm av hj
  · rw [Bool.or_eq_true] at h1
    rcases h1 with h1 | h1
    · exact absurd (by simpa using h1) hm
    · rw [hj] at h1
      rw [hs j (by omega) hm]
      cases hq : (ck_addP P 2000)[j]? with
      | none => rw [hq] at h1; cases h1
      | some a =>
        rw [hq] at h1
        exact ck_le_ok h1 (hr_self hp j a hq)
end HO
end
section
/-! printed by a program of ours: sorts of cells, followed places, places kept by hand -/
def cF : ck_AV := .inl (-2147483648, 2147483647, [])
def ck_tags : List ck_TD := [
  .inl (0, [.inl (0, 40, []), .inr (.inl 29), .inr (.inl 30), .inr (.inl 31), .inl (0, 1, []), .inl (0, 13, []), cF, cF, cF]),
  .inl (1, [.inl (0, 8, []), .inr (.inl 21), .inl (0, 6, []), .inr (.inl 28), .inr (.inl 20), .inr (.inl 20), .inr (.inl 22), .inr (.inl 24), .inr (.inl 27), .inr (.inl 27), cF, cF, cF]),
  .inl (2, [cF, cF, cF, cF, cF, cF, cF, cF, .inr (.inl 26), .inr (.inl 26), .inr (.inl 21), .inr (.inl 21), .inr (.inl 21)]),
  .inl (3, [.inr (.inl 32), .inl (0, 7, []), .inl (0, 8, [])]),
  .inl (4, [.inl (0, 1, []), .inr (.inl 6), .inr (.inl 2), .inr (.inl 9)]),
  .inl (5, [.inl (0, 1, []), .inr (.inl 20), .inr (.inl 21)]),
  .inl (6, [.inl (0, 6, []), .inl (0, 6, []), .inl (0, 8, []), .inl (0, 6, []), .inl (0, 12, []), .inl (0, 1, []), .inr (.inl 17), .inr (.inl 17), .inr (.inl 18), .inr (.inl 20), .inr (.inl 20), .inr (.inl 20), .inr (.inl 21), .inr (.inl 21), .inr (.inl 21), .inr (.inl 21), .inr (.inl 22), .inr (.inl 23), .inr (.inl 23), .inr (.inl 23)]),
  .inl (7, [.inr (.inl 13)]),
  .inl (8, [.inr (.inl 16), .inr (.inl 10), .inl (0, 900, []), .inl (0, 940, []), .inl (0, 4, []), .inl (0, 940, []), cF, .inl (-1, 26, []), .inr (.inr ()), .inl (0, 4, []), .inl (0, 940, [])]),
  .inl (9, [.inl (0, 20, []), .inl (0, 40, []), .inr (.inl 25), .inr (.inl 25), .inr (.inl 25), .inr (.inl 25)]),
  .inl (10, [.inr (.inl 15), .inl (0, 940, [])]),
  .inl (11, [.inr (.inl 8), .inr (.inl 7), .inr (.inl 6), .inr (.inl 2), .inr (.inl 2), .inr (.inl 3), .inr (.inl 9), .inr (.inl 14), .inr (.inl 1), .inr (.inl 5), .inr (.inl 0), .inr (.inl 33), .inr (.inl 26), .inl (0, 4, [])]),
  .inl (12, [.inl (0, 1, []), .inr (.inl 15), .inl (0, 940, []), .inl (0, 940, []), .inl (0, 940, []), .inl (0, 900, []), .inr (.inl 34), .inr (.inl 35), .inr (.inl 36), .inr (.inl 19), .inr (.inl 16), .inl (0, 4, []), .inl (0, 940, []), cF, cF, .inl (0, 4, []), .inl (0, 940, []), .inr (.inr ()), cF, cF, .inr (.inl 37), .inr (.inl 38), .inl (0, 8, []), .inr (.inl 47), .inr (.inl 39), .inr (.inl 40), cF, cF, cF, cF, cF, cF, .inr (.inl 20), .inl (-1, 6, []), .inr (.inl 20), .inr (.inl 41), .inr (.inl 20), .inl (-1, 6, []), .inl (0, 8, []), cF, cF, .inl (0, 40, []), .inr (.inl 42), .inl (0, 1, []), .inr (.inl 43), .inl (0, 45, []), .inl (0, 20, []), .inl (0, 45, []), cF, .inl (0, 1, []), .inr (.inl 44), .inr (.inl 45), .inr (.inl 19), .inr (.inl 46)]),
  .inl (6, [.inl (0, 6, []), .inl (0, 6, []), .inl (0, 8, []), .inl (0, 6, []), .inl (0, 12, []), .inl (0, 1, []), .inr (.inl 17), .inr (.inl 17), .inr (.inl 18), .inr (.inl 20), .inr (.inl 20), .inr (.inl 20), .inr (.inl 21), .inr (.inl 21), .inr (.inl 21), .inr (.inl 21), .inr (.inl 22), .inr (.inl 23), .inr (.inl 23), .inr (.inl 23)]),
  .inl (9, [.inl (0, 20, []), .inl (0, 40, []), .inr (.inl 25), .inr (.inl 25), .inr (.inl 25), .inr (.inl 25)]),
  .inr (1, 940, [], 0),
  .inr (3, 27, [], 0),
  .inr (3, 6, [], 0),
  .inr (3, 8, [], 0),
  .inr (3, 40, [], 0),
  .inr (0, 6, [], 0),
  .inr (0, 8, [], 0),
  .inr (0, 48, [], 0),
  .inr (0, 12, [], 0),
  .inr (0, 7, [], 0),
  .inr (0, 40, [], 0),
  .inr (0, 6, [(6, -1, 7)], 0),
  .inr (0, 6, [(6, 0, 7)], 0),
  .inr (0, 6, [(6, 0, 5)], 0),
  .inr (0, 40, [], 0),
  .inr (0, 40, [(40, -1, 7)], 0),
  .inr (0, 40, [(40, -1, 5)], 0),
  .inr (4, 8, [], 2),
  .inr (5, 2, [], 4),
  .inr (0, 367, [(2, 0, 6), (3, 0, 8), (4, 0, 6), (5, 0, 12), (140, -2147483648, 2147483647), (141, 0, 6), (146, -2147483648, 2147483647), (154, 0, 6), (180, -2147483648, 2147483647), (186, 0, 8), (187, 0, 45), (367, -2147483648, 2147483647)], 0),
  .inr (0, 140, [(2, 0, 6), (3, 0, 8), (4, 0, 6), (5, 0, 12)], 0),
  .inr (0, 135, [], 0),
  .inr (0, 368, [(1, 0, 6), (6, -2147483648, 2147483647), (14, 0, 6), (40, -2147483648, 2147483647), (46, 0, 8), (47, 0, 6), (52, -2147483648, 2147483647), (60, 0, 6), (86, -2147483648, 2147483647), (92, 0, 8), (93, 0, 6), (98, -2147483648, 2147483647), (106, 0, 6), (132, -2147483648, 2147483647), (138, 0, 8), (139, 0, 6), (144, -2147483648, 2147483647), (152, 0, 6), (178, -2147483648, 2147483647), (184, 0, 8), (185, 0, 6), (190, -2147483648, 2147483647), (198, 0, 6), (224, -2147483648, 2147483647), (230, 0, 8), (231, 0, 6), (236, -2147483648, 2147483647), (244, 0, 6), (270, -2147483648, 2147483647), (276, 0, 8), (277, 0, 6), (282, -2147483648, 2147483647), (290, 0, 6), (316, -2147483648, 2147483647), (322, 0, 8), (323, 0, 6), (328, -2147483648, 2147483647), (336, 0, 6), (362, -2147483648, 2147483647), (368, 0, 8)], 0),
  .inr (0, 46, [(1, 0, 6), (6, -2147483648, 2147483647), (14, 0, 6), (40, -2147483648, 2147483647), (46, 0, 8)], 0),
  .inr (0, 6, [(6, -1, 8)], 0),
  .inr (0, 6, [(6, -1, 8)], 0),
  .inr (0, 8, [(8, -1, 5)], 0),
  .inr (0, 4, [], 0),
  .inr (0, 45, [], 0),
  .inr (2, 45, [(45, 0, 1)], 0),
  .inr (0, 734, [(2, 0, 6), (3, 0, 8), (4, 0, 6), (5, 0, 12), (140, -2147483648, 2147483647), (141, 0, 6), (146, -2147483648, 2147483647), (154, 0, 6), (180, -2147483648, 2147483647), (186, 0, 8), (187, 0, 45), (367, -2147483648, 2147483647), (369, 0, 6), (370, 0, 8), (371, 0, 6), (372, 0, 12), (507, -2147483648, 2147483647), (508, 0, 6), (513, -2147483648, 2147483647), (521, 0, 6), (547, -2147483648, 2147483647), (553, 0, 8), (554, 0, 45), (734, -2147483648, 2147483647)], 0),
  .inr (2, 2, [(2, 0, 1)], 0),
  .inr (0, 6, [(6, 0, 5)], 0)]
def ck_pvs0 : List (Nat × Nat) := [(10, 1), (8, 3), (13, 0), (13, 1), (13, 2), (13, 3), (13, 4), (1, 2), (3, 2), (14, 0), (14, 1), (12, 2), (12, 3), (12, 4), (12, 11), (12, 22), (34, 140), (34, 3), (38, 0), (35, 0), (35, 1), (35, 2), (35, 3), (35, 4), (12, 18)]
def ck_prot0 (t : Nat) : List (Nat × Nat) := match t with
  | 0 => [(0, 0)]
  | 12 => [(22, 22), (41, 41), (45, 45), (46, 46), (47, 47), (49, 49)]
  | 29 => [(0, 39)]
  | 30 => [(0, 39)]
  | 31 => [(0, 39)]
  | 34 => [(0, 139), (186, 366)]
  | 36 => [(0, 134)]
  | 37 => [(0, 0), (46, 46), (92, 92), (138, 138), (184, 184), (230, 230), (276, 276), (322, 322)]
  | 39 => [(0, 5)]
  | 43 => [(0, 44)]
  | 45 => [(3, 3), (140, 140), (186, 366), (370, 370), (507, 507), (553, 733)]
  | 46 => [(0, 1)]
  | _ => []
def ck_protA (t : Nat) : List (Nat × Nat) := match t with
  | 0 => [(0, 0)]
  | 2 => [(8, 12)]
  | 12 => [(22, 22), (41, 41), (45, 45), (46, 46), (47, 47), (49, 49)]
  | 26 => [(0, 5)]
  | 29 => [(0, 39)]
  | 30 => [(0, 39)]
  | 31 => [(0, 39)]
  | 34 => [(0, 139), (186, 366)]
  | 35 => [(0, 139)]
  | 36 => [(0, 134)]
  | 37 => [(0, 0), (46, 46), (92, 92), (138, 138), (184, 184), (230, 230), (276, 276), (322, 322)]
  | 39 => [(0, 5)]
  | 43 => [(0, 44)]
  | 45 => [(3, 3), (140, 140), (186, 366), (370, 370), (507, 507), (553, 733)]
  | 46 => [(0, 1)]
  | _ => []
def ck_prot1 (t : Nat) : List (Nat × Nat) := if t = 39 then [] else ck_prot0 t
def ck_uns : List Nat := [0, 12, 29, 30, 31, 34, 35, 36, 37, 38, 39, 40, 41, 42, 43, 44, 45, 46, 47]
def pU : List ck_AV := [.inl (0, 940, [(2000, 0, 0)]), .inl (0, 940, [(2002, 0, 0)]), .inl (0, 6, [(2004, 0, 0)]), .inl (0, 6, [(2006, 0, 0)]), .inl (0, 8, [(2008, 0, 0)]), .inl (0, 6, [(2010, 0, 0)]), .inl (0, 12, [(2012, 0, 0)]), .inl (0, 6, [(2014, 0, 0)]), .inl (0, 8, [(2016, 0, 0)]), .inl (0, 20, [(2018, 0, 0)]), .inl (0, 40, [(2020, 0, 0)]), .inl (0, 940, [(2022, 0, 0)]), .inl (0, 940, [(2024, 0, 0)]), .inl (0, 940, [(2026, 0, 0)]), .inl (0, 4, [(2028, 0, 0)]), .inl (0, 8, [(2030, 0, 0)]), .inl (0, 6, [(2032, 0, 0)]), .inl (0, 6, [(2034, 0, 0)]), .inl (0, 6, [(2036, 0, 0)]), .inl (0, 6, [(2038, 0, 0)]), .inl (0, 6, [(2040, 0, 0)]), .inl (0, 8, [(2042, 0, 0)]), .inl (0, 6, [(2044, 0, 0)]), .inl (0, 12, [(2046, 0, 0)]), .inl (-2147483648, 2147483647, [(2048, 0, 0)])]
def pUM : List ck_AV := [.inl (0, 940, [(2000, 0, 0)]), .inl (0, 940, [(2002, 0, 0)]), .inl (0, 6, [(2004, 0, 0)]), .inl (0, 6, [(2006, 0, 0)]), .inl (0, 8, [(2008, 0, 0)]), .inl (0, 6, [(2010, 0, 0)]), .inl (0, 12, [(2012, 0, 0)]), .inl (0, 6, [(2014, 0, 0)]), .inl (0, 8, [(2016, 0, 0)]), .inl (0, 20, [(2018, 0, 0)]), .inl (0, 40, [(2020, 0, 0)]), .inl (0, 940, [(2022, 0, 0)]), .inl (0, 940, [(2024, 0, 0)]), .inl (0, 940, [(2026, 0, 0)]), .inl (0, 4, [(2028, 0, 0)]), .inl (0, 8, [(2030, 0, 0)]), .inl (0, 6, [(2032, 0, 0), (2034, -6, 0)]), .inl (0, 6, [(2034, 0, 0)]), .inl (0, 6, [(2036, 0, 0)]), .inl (0, 6, [(2038, 0, 0)]), .inl (0, 6, [(2040, 0, 0)]), .inl (0, 8, [(2042, 0, 0)]), .inl (0, 6, [(2044, 0, 0)]), .inl (0, 12, [(2046, 0, 0)]), .inl (-2147483648, 2147483647, [(2048, 0, 0)])]
def pP : List ck_AV := [.inl (0, 940, []), .inl (0, 940, []), .inl (0, 6, []), .inl (0, 6, []), .inl (0, 8, []), .inl (0, 6, []), .inl (0, 12, []), .inl (0, 6, []), .inl (0, 8, []), .inl (0, 20, []), .inl (0, 40, []), .inl (0, 940, []), .inl (0, 940, []), .inl (0, 940, []), .inl (0, 4, []), .inl (0, 8, []), .inl (0, 6, []), .inl (0, 6, []), .inl (0, 6, []), .inl (0, 6, []), .inl (0, 6, []), .inl (0, 8, []), .inl (0, 6, []), .inl (0, 12, []), cF]
def pPM : List ck_AV := [.inl (0, 940, []), .inl (0, 940, []), .inl (0, 6, []), .inl (0, 6, []), .inl (0, 8, []), .inl (0, 6, []), .inl (0, 12, []), .inl (0, 6, []), .inl (0, 8, []), .inl (0, 20, []), .inl (0, 40, []), .inl (0, 940, []), .inl (0, 940, []), .inl (0, 940, []), .inl (0, 4, []), .inl (0, 8, []), .inl (0, 6, [(2034, -6, 0)]), .inl (0, 6, []), .inl (0, 6, []), .inl (0, 6, []), .inl (0, 6, []), .inl (0, 8, []), .inl (0, 6, []), .inl (0, 12, []), cF]
end
section
/-! printed by a program of ours: contracts as data -/
/-- 0: RecastStage$Reader.isAtName -/
def kc_0 : ck_K := (yX8_isAtName, cX8_isAtName, 1, (some .boolean), 8, [.inr (.inl 8)], pP, [(some (.inl (0, 0, [])), [], pU), (some (.inl (1, 1, [])), [], pU)], 1, 12, [])
/-- 1: RecastStage$Book.canBegin -/
def kc_1 : ck_K := (yX0_canBegin, cX0_canBegin, 2, (some .boolean), 0, [.inr (.inl 8), cF], pP, [(some (.inl (0, 0, [])), [], pU), (some (.inl (1, 1, [])), [], pU)], 2, 32, [])
/-- 2: RecastStage.has -/
def kc_2 : ck_K := (yX11_has, cX11_has, 2, (some .boolean), 11, [cF, cF], pP, [(some (.inl (0, 0, [])), [], pU), (some (.inl (1, 1, [])), [], pU)], 1, 12, [])
/-- 3: java/lang/Math.min -/
def kc_3 : ck_K := (yJ9_min_7cf53, cJ9_min_7cf53, 2, (some .int), 14, [cF, cF], pP, [(some (cF), [], pU)], 1, 12, [])
/-- 4: RecastStage$Casting.cheapestAt -/
def kc_4 : ck_K := (yX1_cheapestAt, cX1_cheapestAt, 4, (some .int), 1, [.inr (.inl 1), .inl (0, 5, [])], pP, [(some (cF), [], pU)], 2, 33, [(5, ([(3, .inl (0, 8, [])), (2, cF), (0, .inr (.inl 1)), (1, .inl (0, 5, [(2, 0, 0)]))], [], pU), (16, [(3, -2)]))])
/-- 5: RecastStage$Casting.freeMen -/
def kc_5 : ck_K := (yX1_freeMen, cX1_freeMen, 5, (some .int), 1, [.inr (.inl 1), .inl (0, 5, []), cF], pP, [(some (cF), [], pU)], 2, 33, [(14, ([(4, .inl (0, 5, [])), (3, cF), (0, .inr (.inl 1)), (1, .inl (0, 5, [(2, 0, 0)]))], [], pU), (10, [(4, -2)]))])
/-- 6: RecastStage$Casting.seekCheapest -/
def kc_6 : ck_K := (yX1_seekCheapest, cX1_seekCheapest, 6, none, 1, [.inr (.inl 1), .inl (6, 6, []), cF, cF], pP, [(none, [], pU)], 1, 26, [])
/-- 7: RecastStage$Casting.seekCheapest -/
def kc_7 : ck_K := (yX1_seekCheapest, cX1_seekCheapest, 6, none, 1, [.inr (.inl 1), .inl (5, 5, []), cF, cF], pP, [(none, [], pU)], 3, 57, [(58, ([(5, .inl (0, 8, [])), (4, cF), (0, .inr (.inl 1)), (1, .inl (5, 5, [(2, 0, 0)])), (2, .inl (-2147483648, 2147483647, [(4, 0, 0)])), (3, .inl (-2147483648, 2147483647, [(6, 0, 0)]))], [], (pU.set 7 (.inl (6, 6, [(2014, 0, 0)])))), (16, [(5, -2)]))])
/-- 8: RecastStage$Casting.seekCheapest -/
def kc_8 : ck_K := (yX1_seekCheapest, cX1_seekCheapest, 6, none, 1, [.inr (.inl 1), .inl (4, 4, []), cF, cF], pP, [(none, [], pU)], 4, 82, [(58, ([(5, .inl (0, 8, [])), (4, cF), (0, .inr (.inl 1)), (1, .inl (4, 4, [(2, 0, 0)])), (2, .inl (-2147483648, 2147483647, [(4, 0, 0)])), (3, .inl (-2147483648, 2147483647, [(6, 0, 0)]))], [], (pU.set 7 (.inl (5, 6, [(2014, 0, 0)])))), (16, [(5, -2)]))])
/-- 9: RecastStage$Casting.seekCheapest -/
def kc_9 : ck_K := (yX1_seekCheapest, cX1_seekCheapest, 6, none, 1, [.inr (.inl 1), .inl (3, 3, []), cF, cF], pP, [(none, [], pU)], 5, 107, [(58, ([(5, .inl (0, 8, [])), (4, cF), (0, .inr (.inl 1)), (1, .inl (3, 3, [(2, 0, 0)])), (2, .inl (-2147483648, 2147483647, [(4, 0, 0)])), (3, .inl (-2147483648, 2147483647, [(6, 0, 0)]))], [], (pU.set 7 (.inl (4, 6, [(2014, 0, 0)])))), (16, [(5, -2)]))])
/-- 10: RecastStage$Casting.seekCheapest -/
def kc_10 : ck_K := (yX1_seekCheapest, cX1_seekCheapest, 6, none, 1, [.inr (.inl 1), .inl (2, 2, []), cF, cF], pP, [(none, [], pU)], 6, 132, [(58, ([(5, .inl (0, 8, [])), (4, cF), (0, .inr (.inl 1)), (1, .inl (2, 2, [(2, 0, 0)])), (2, .inl (-2147483648, 2147483647, [(4, 0, 0)])), (3, .inl (-2147483648, 2147483647, [(6, 0, 0)]))], [], (pU.set 7 (.inl (3, 6, [(2014, 0, 0)])))), (16, [(5, -2)]))])
/-- 11: RecastStage$Casting.seekCheapest -/
def kc_11 : ck_K := (yX1_seekCheapest, cX1_seekCheapest, 6, none, 1, [.inr (.inl 1), .inl (1, 1, []), cF, cF], pP, [(none, [], pU)], 7, 157, [(58, ([(5, .inl (0, 8, [])), (4, cF), (0, .inr (.inl 1)), (1, .inl (1, 1, [(2, 0, 0)])), (2, .inl (-2147483648, 2147483647, [(4, 0, 0)])), (3, .inl (-2147483648, 2147483647, [(6, 0, 0)]))], [], (pU.set 7 (.inl (2, 6, [(2014, 0, 0)])))), (16, [(5, -2)]))])
/-- 12: RecastStage$Casting.seekCheapest -/
def kc_12 : ck_K := (yX1_seekCheapest, cX1_seekCheapest, 6, none, 1, [.inr (.inl 1), .inl (0, 0, []), cF, cF], pP, [(none, [], pU)], 8, 182, [(58, ([(5, .inl (0, 8, [])), (4, cF), (0, .inr (.inl 1)), (1, .inl (0, 0, [(2, 0, 0)])), (2, .inl (-2147483648, 2147483647, [(4, 0, 0)])), (3, .inl (-2147483648, 2147483647, [(6, 0, 0)]))], [], (pU.set 7 (.inl (1, 6, [(2014, 0, 0)])))), (16, [(5, -2)]))])
/-- 13: RecastStage$Casting.findCheapest -/
def kc_13 : ck_K := (yX1_findCheapest, cX1_findCheapest, 2, (some .boolean), 1, [.inr (.inl 1)], pP, [(some (.inl (0, 0, [])), [], pU), (some (.inl (1, 1, [])), [], pU)], 9, 207, [(17, ([(1, .inl (-1, 5, [(2014, -7, -1)])), (0, .inr (.inl 1))], [], pU), (2, [(1, 2)]))])
/-- 14: RecastStage$Evening.isOver -/
def kc_14 : ck_K := (yX2_isOver, cX2_isOver, 2, (some .boolean), 2, [.inr (.inl 2), .inr (.inl 6)], pP, [(some (.inl (0, 0, [])), [], pU), (some (.inl (1, 1, [])), [], pU)], 1, 12, [])
/-- 15: RecastStage$Evening.unknownTo -/
def kc_15 : ck_K := (yX2_unknownTo, cX2_unknownTo, 4, (some .int), 2, [.inr (.inl 2), .inr (.inl 6), .inl (0, 7, []), .inl (0, 5, [])], pP, [(some (cF), [], pU)], 1, 12, [])
/-- 16: RecastStage$Play.partsOf -/
def kc_16 : ck_K := (yX6_partsOf, cX6_partsOf, 4, (some .int), 6, [.inr (.inl 6), cF], pP, [(some (cF), [], pU)], 1, 12, [(4, ([(3, .inl (0, 12, [])), (2, cF), (0, .inr (.inl 6)), (1, .inl (-2147483648, 2147483647, [(2, 0, 0)]))], [], pU), (24, [(3, -2)]))])
/-- 17: RecastStage$Evening.whyUnfit -/
def kc_17 : ck_K := (yX2_whyUnfit, cX2_whyUnfit, 4, (some .int), 2, [.inr (.inl 2), .inr (.inl 6), .inl (0, 7, []), .inl (0, 5, [])], pP, [(some (.inl (0, 6, [])), [], pU)], 2, 35, [])
/-- 18: RecastStage$Casting.ableMen -/
def kc_18 : ck_K := (yX1_ableMen, cX1_ableMen, 8, (some .int), 1, [.inr (.inl 6), .inr (.inl 2), .inl (0, 5, []), .inl (0, 1, [])], pP, [(some (cF), [], pU)], 3, 58, [(6, ([(5, .inl (0, 8, [])), (4, cF), (0, .inr (.inl 6)), (1, .inr (.inl 2)), (2, .inl (0, 5, [(4, 0, 0)])), (3, .inl (0, 1, [(6, 0, 0)]))], [], pU), (16, [(5, -2)]))])
/-- 19: RecastStage$Play.partsBeside -/
def kc_19 : ck_K := (yX6_partsBeside, cX6_partsBeside, 5, (some .int), 6, [.inr (.inl 6), cF, cF], pP, [(some (cF), [], pU)], 2, 33, [(5, ([(4, .inl (0, 12, [])), (3, cF), (0, .inr (.inl 6)), (1, .inl (-2147483648, 2147483647, [(2, 0, 0)])), (2, .inl (-2147483648, 2147483647, [(4, 0, 0)]))], [], pU), (24, [(4, -2)]))])
/-- 20: RecastStage$Casting.prepare -/
def kc_20 : ck_K := (yX1_prepare, cX1_prepare, 6, (some .boolean), 1, [.inr (.inl 1), .inr (.inl 6), .inr (.inl 2), .inl (0, 1, [])], pP, [(some (.inl (0, 0, [])), [], (pU.set 7 (.inl (0, 0, [])))), (some (.inl (1, 1, [])), [], (pU.set 7 (.inl (0, 6, []))))], 4, 85, [(51, ([(5, .inl (0, 6, [])), (4, cF), (0, .inr (.inl 1)), (1, .inr (.inl 6)), (2, .inr (.inl 2)), (3, .inl (0, 1, [(6, 0, 0)]))], [], (pU.set 7 (.inl (0, 6, [(11, -6, 0)])))), (12, [(5, -2)]))])
/-- 21: RecastStage$Play.liking -/
def kc_21 : ck_K := (yX6_liking, cX6_liking, 3, (some .int), 6, [.inr (.inl 6), .inl (0, 7, []), .inl (0, 5, [])], pP, [(some (cF), [], pU)], 1, 12, [])
/-- 22: RecastStage$Play.liking -/
def kc_22 : ck_K := (yX6_liking, cX6_liking, 3, (some .int), 6, [.inr (.inl 13), .inl (0, 7, []), .inl (0, 5, [])], pP, [(some (cF), [], pU)], 1, 12, [])
/-- 23: RecastStage$Casting.findBest -/
def kc_23 : ck_K := (yX1_findBest, cX1_findBest, 5, (some .boolean), 1, [.inr (.inl 1), .inr (.inl 6), .inr (.inl 2)], pP, [(some (.inl (0, 0, [])), [], (pU.set 7 (.inl (0, 6, [])))), (some (.inl (1, 1, [])), [], (pU.set 7 (.inl (0, 6, []))))], 10, 228, [(14, ([(3, .inl (0, 6, [])), (0, .inr (.inl 1)), (1, .inr (.inl 6))], [], (pU.set 7 (.inl (0, 6, [])))), (145, [(3, -21)])), (25, ([(4, .inl (0, 8, [])), (3, .inl (0, 5, [])), (0, .inr (.inl 1)), (1, .inr (.inl 6))], [], (pU.set 7 (.inl (1, 6, [])))), (142, [(3, -21), (4, -2)]))])
/-- 24: RecastStage$Evening.canEndAct -/
def kc_24 : ck_K := (yX2_canEndAct, cX2_canEndAct, 4, (some .boolean), 2, [.inr (.inl 2), .inr (.inl 6)], pP, [(some (.inl (0, 0, [])), [], pU), (some (.inl (1, 1, [])), [], pU)], 2, 35, [(21, ([(3, .inl (0, 6, [])), (2, cF), (0, .inr (.inl 2)), (1, .inr (.inl 6))], [], pU), (12, [(3, -2)]))])
/-- 25: RecastStage$Evening.canTell -/
def kc_25 : ck_K := (yX2_canTell, cX2_canTell, 4, (some .boolean), 2, [.inr (.inl 2), .inr (.inl 6), .inl (0, 7, []), cF], pP, [(some (.inl (0, 0, [])), [], pU), (some (.inl (1, 1, [])), [], pU)], 2, 33, [])
/-- 26: RecastStage$Evening.meetsFoe -/
def kc_26 : ck_K := (yX2_meetsFoe, cX2_meetsFoe, 6, (some .boolean), 2, [.inr (.inl 2), .inr (.inl 6), .inl (0, 7, []), .inl (0, 5, [])], pP, [(some (.inl (0, 0, [])), [], pU), (some (.inl (1, 1, [])), [], pU)], 3, 57, [(14, ([(5, .inl (0, 6, [])), (4, cF), (0, .inr (.inl 2)), (1, .inr (.inl 6)), (2, .inl (0, 7, [(4, 0, 0)]))], [], pU), (12, [(5, -2)]))])
/-- 27: RecastStage$Evening.partOf -/
def kc_27 : ck_K := (yX2_partOf, cX2_partOf, 3, (some .int), 2, [.inr (.inl 2), cF], pP, [(some (.inl (-1, 5, [])), [], pU)], 1, 12, [(2, ([(2, .inl (0, 6, [])), (0, .inr (.inl 2)), (1, .inl (-2147483648, 2147483647, [(2, 0, 0)]))], [], pU), (12, [(2, -2)]))])
/-- 28: RecastStage$Evening.whyNot -/
def kc_28 : ck_K := (yX2_whyNot, cX2_whyNot, 5, (some .int), 2, [.inr (.inl 2), .inr (.inl 6), .inl (0, 7, []), .inl (0, 5, [])], pP, [(some (.inl (0, 10, [])), [], pU)], 4, 82, [])
/-- 29: RecastStage$Evening.clap (by hand) -/
def kc_29 : ck_K := (yX2_clap, cX2_clap, 6, none, 2, [.inr (.inl 2), .inr (.inl 6), .inl (0, 7, [])], pP, [(none, [], pU)], 2, 34, [])
/-- 30: RecastStage$Evening.learn -/
def kc_30 : ck_K := (yX2_learn, cX2_learn, 5, none, 2, [.inr (.inl 2), .inr (.inl 6), .inl (0, 7, [])], pP, [(none, [], pU)], 2, 34, [(9, ([(4, .inl (0, 12, [])), (3, .inl (-1, 5, [])), (0, .inr (.inl 2)), (1, .inr (.inl 6)), (2, .inl (0, 7, [(4, 0, 0)]))], [], pU), (24, [(4, -2)]))])
/-- 31: java/lang/Math.abs -/
def kc_31 : ck_K := (yJ9_abs_0f7a4, cJ9_abs_0f7a4, 1, (some .int), 14, [cF], pP, [(some (cF), [], pU)], 1, 12, [])
/-- 32: RecastStage$Evening.lossBy (by hand) -/
def kc_32 : ck_K := (yX2_lossBy, cX2_lossBy, 4, (some .int), 2, [.inr (.inl 2), .inr (.inl 6), .inl (0, 7, []), .inl (0, 5, [])], pP, [(some (cF), [], pU)], 2, 32, [])
/-- 33: RecastStage$Evening.menOn -/
def kc_33 : ck_K := (yX2_menOn, cX2_menOn, 3, (some .int), 2, [.inr (.inl 2)], pP, [(some (cF), [], pU)], 1, 12, [(4, ([(2, .inl (0, 6, [])), (1, cF), (0, .inr (.inl 2))], [], pU), (12, [(2, -2)]))])
/-- 34: RecastStage$Evening.tell -/
def kc_34 : ck_K := (yX2_tell, cX2_tell, 3, none, 2, [.inr (.inl 2), .inl (0, 7, []), cF], pP, [(none, [], pU)], 1, 12, [])
/-- 35: RecastStage$Reader.fail -/
def kc_35 : ck_K := (yX8_fail, cX8_fail, 2, none, 8, [.inr (.inl 8), .inl (1, 4, [])], pP, [(none, [], pU)], 1, 12, [])
/-- 36: RecastStage$Reader.isFine -/
def kc_36 : ck_K := (yX8_isFine, cX8_isFine, 1, (some .boolean), 8, [.inr (.inl 8)], pP, [(some (.inl (0, 0, [])), [], pU), (some (.inl (1, 1, [])), [], pU)], 1, 12, [])
/-- 37: RecastStage$Reader.indexOf -/
def kc_37 : ck_K := (yX8_indexOf, cX8_indexOf, 5, (some .int), 8, [.inr (.inl 16), cF, .inr (.inr ())], pP, [(some (.inl (-1, 26, [])), [], pU)], 1, 12, [(3, ([(4, .inl (0, 27, [])), (0, .inr (.inl 16)), (1, .inl (-2147483648, 2147483647, [(2, 0, 0)])), (2, .inr (.inr ()))], [], pU), (54, [(4, -2)]))])
/-- 38: RecastStage$Reader.indexOf -/
def kc_38 : ck_K := (yX8_indexOf, cX8_indexOf, 5, (some .int), 8, [.inr (.inl 17), cF, .inr (.inr ())], pP, [(some (.inl (-1, 5, [])), [], pU)], 1, 12, [(3, ([(4, .inl (0, 6, [])), (0, .inr (.inl 17)), (1, .inl (-2147483648, 2147483647, [(2, 0, 0)])), (2, .inr (.inr ()))], [], pU), (12, [(4, -2)]))])
/-- 39: RecastStage$Reader.indexOf -/
def kc_39 : ck_K := (yX8_indexOf, cX8_indexOf, 5, (some .int), 8, [.inr (.inl 18), cF, .inr (.inr ())], pP, [(some (.inl (-1, 7, [])), [], pU)], 1, 12, [(3, ([(4, .inl (0, 8, [])), (0, .inr (.inl 18)), (1, .inl (-2147483648, 2147483647, [(2, 0, 0)])), (2, .inr (.inr ()))], [], pU), (16, [(4, -2)]))])
/-- 40: RecastStage$Reader.nameHere -/
def kc_40 : ck_K := (yX8_nameHere, cX8_nameHere, 4, (some .int), 8, [.inr (.inl 8), .inr (.inl 17), cF], pP, [(some (.inl (-1, 5, [])), [], pU)], 2, 36, [])
/-- 41: RecastStage$Reader.nameHere -/
def kc_41 : ck_K := (yX8_nameHere, cX8_nameHere, 4, (some .int), 8, [.inr (.inl 8), .inr (.inl 18), cF], pP, [(some (.inl (-1, 7, [])), [], pU)], 2, 36, [])
/-- 42: RecastStage$Reader.isBlank -/
def kc_42 : ck_K := (yX8_isBlank, cX8_isBlank, 1, (some .boolean), 8, [cF], pP, [(some (.inl (0, 0, [])), [], pU), (some (.inl (1, 1, [])), [(0, 10, 32)], pU)], 1, 12, [])
/-- 43: RecastStage$Reader.isDigit -/
def kc_43 : ck_K := (yX8_isDigit, cX8_isDigit, 1, (some .boolean), 8, [cF], pP, [(some (.inl (0, 0, [])), [], pU), (some (.inl (1, 1, [])), [(0, 48, 57)], pU)], 1, 12, [])
/-- 44: RecastStage$Reader.isLetter -/
def kc_44 : ck_K := (yX8_isLetter, cX8_isLetter, 1, (some .boolean), 8, [cF], pP, [(some (.inl (0, 0, [])), [], pU), (some (.inl (1, 1, [])), [(0, 97, 122)], pU)], 1, 12, [])
/-- 45: RecastStage$Reader.isSign -/
def kc_45 : ck_K := (yX8_isSign, cX8_isSign, 1, (some .boolean), 8, [cF], pP, [(some (.inl (0, 0, [])), [], pU), (some (.inl (1, 1, [])), [(0, 40, 62)], pU)], 1, 12, [])
/-- 46: RecastStage$Reader.withLetter -/
def kc_46 : ck_K := (yX8_withLetter, cX8_withLetter, 3, (some .long), 8, [.inr (.inr ()), cF], pP, [(some (.inr (.inr ())), [], pU)], 1, 12, [])
/-- 47: RecastStage$Tape.byteAt -/
def kc_47 : ck_K := (yX10_byteAt, cX10_byteAt, 2, (some .int), 10, [.inr (.inl 10), cF], pP, [(some (.inl (0, 255, [])), [], pU)], 1, 12, [])
/-- 48: RecastStage$Reader.readRun -/
def kc_48 : ck_K := (yX8_readRun, cX8_readRun, 4, none, 8, [.inr (.inl 8)], pP, [(none, [], (pU.set 1 (.inl (0, 940, [(2002, 0, 940)]))))], 2, 36, [(14, ([(2, cF), (1, cF), (0, .inr (.inl 8))], [], (pU.set 1 (.inl (0, 940, [(2002, 0, 940)])))), (1880, [(1001, -2)]))])
/-- 49: RecastStage$Reader.step -/
def kc_49 : ck_K := (yX8_step, cX8_step, 2, none, 8, [.inr (.inl 8)], pP, [(none, [], (pU.set 1 (.inl (0, 940, [(2002, 0, 940)]))))], 3, 59, [(0, ([(0, .inr (.inl 8))], [], ((pU.set 0 (.inl (1, 940, [(2000, 0, 0)]))).set 1 (.inl (1, 940, [(2002, 1, 940)])))), (1880, [(1001, -2)]))])
/-- 50: RecastStage$Reader.takeName -/
def kc_50 : ck_K := (yX8_takeName, cX8_takeName, 4, (some .int), 8, [.inr (.inl 8), .inr (.inl 17), cF], pP, [(some (.inl (-1, 5, [])), [], (pU.set 1 (.inl (0, 940, [(2002, 0, 940)]))))], 4, 80, [])
/-- 51: RecastStage$Reader.takeName -/
def kc_51 : ck_K := (yX8_takeName, cX8_takeName, 4, (some .int), 8, [.inr (.inl 8), .inr (.inl 18), cF], pP, [(some (.inl (-1, 7, [])), [], (pU.set 1 (.inl (0, 940, [(2002, 0, 940)]))))], 4, 80, [])
/-- 52: RecastStage$Reader.isAtWord -/
def kc_52 : ck_K := (yX8_isAtWord, cX8_isAtWord, 2, (some .boolean), 8, [.inr (.inl 8), cF], pP, [(some (.inl (0, 0, [])), [], pU), (some (.inl (1, 1, [])), [(1, -1, 26)], pU)], 1, 12, [])
/-- 53: RecastStage$Reader.takeWord -/
def kc_53 : ck_K := (yX8_takeWord, cX8_takeWord, 2, none, 8, [.inr (.inl 8), cF], pP, [(none, [], (pU.set 1 (.inl (0, 940, [(2002, 0, 940)]))))], 4, 80, [])
/-- 54: RecastStage$Reader.wordHere -/
def kc_54 : ck_K := (yX8_wordHere, cX8_wordHere, 1, (some .int), 8, [.inr (.inl 8)], pP, [(some (.inl (-1, 26, [])), [], pU)], 1, 12, [])
/-- 55: RecastStage$Reader.isAtSign -/
def kc_55 : ck_K := (yX8_isAtSign, cX8_isAtSign, 2, (some .boolean), 8, [.inr (.inl 8), cF], pP, [(some (.inl (0, 0, [])), [], pU), (some (.inl (1, 1, [])), [], pU)], 1, 12, [])
/-- 56: RecastStage$Reader.takeSign -/
def kc_56 : ck_K := (yX8_takeSign, cX8_takeSign, 2, none, 8, [.inr (.inl 8), cF], pP, [(none, [], (pU.set 1 (.inl (0, 940, [(2002, 0, 940)]))))], 4, 80, [])
/-- 57: RecastStage$Casting.ableForAny -/
def kc_57 : ck_K := (yX1_ableForAny, cX1_ableForAny, 4, (some .int), 1, [.inr (.inl 1), cF], pP, [(some (cF), [], pU)], 2, 33, [(4, ([(3, .inl (0, 6, [])), (2, cF), (0, .inr (.inl 1)), (1, .inl (-2147483648, 2147483647, [(2, 0, 0)]))], [], pU), (12, [(3, -2)]))])
/-- 58: java/lang/Integer.bitCount -/
def kc_58 : ck_K := (yJ6_bitCount_0f7a4, cJ6_bitCount_0f7a4, 1, (some .int), 13, [cF], pP, [(some (.inl (0, 63, [])), [], pU)], 1, 12, [])
/-- 59: RecastStage$Casting.addLast -/
def kc_59 : ck_K := (yX1_addLast, cX1_addLast, 4, none, 1, [.inr (.inl 1), cF, cF], pP, [(none, [], pU)], 2, 32, [])
/-- 60: RecastStage$Casting.seekAll -/
def kc_60 : ck_K := (yX1_seekAll, cX1_seekAll, 5, none, 1, [.inr (.inl 1), .inl (6, 6, []), cF], pP, [(none, [], pU)], 1, 12, [])
/-- 61: RecastStage$Casting.seekAll -/
def kc_61 : ck_K := (yX1_seekAll, cX1_seekAll, 5, none, 1, [.inr (.inl 1), .inl (5, 5, []), cF], pP, [(none, [], pU)], 3, 57, [])
/-- 62: RecastStage$Casting.seekAll -/
def kc_62 : ck_K := (yX1_seekAll, cX1_seekAll, 5, none, 1, [.inr (.inl 1), .inl (4, 4, []), cF], pP, [(none, [], pU)], 4, 81, [(56, ([(4, .inl (0, 8, [])), (3, cF), (0, .inr (.inl 1)), (1, .inl (4, 4, [(2, 0, 0)])), (2, .inl (-2147483648, 2147483647, [(4, 0, 0)]))], [], (pU.set 7 (.inl (6, 6, [(2014, 0, 0)])))), (16, [(4, -2)]))])
/-- 63: RecastStage$Casting.seekAll -/
def kc_63 : ck_K := (yX1_seekAll, cX1_seekAll, 5, none, 1, [.inr (.inl 1), .inl (3, 3, []), cF], pP, [(none, [], pU)], 5, 105, [(56, ([(4, .inl (0, 8, [])), (3, cF), (0, .inr (.inl 1)), (1, .inl (3, 3, [(2, 0, 0)])), (2, .inl (-2147483648, 2147483647, [(4, 0, 0)]))], [], (pU.set 7 (.inl (5, 6, [(2014, 0, 0)])))), (16, [(4, -2)]))])
/-- 64: RecastStage$Casting.seekAll -/
def kc_64 : ck_K := (yX1_seekAll, cX1_seekAll, 5, none, 1, [.inr (.inl 1), .inl (2, 2, []), cF], pP, [(none, [], pU)], 6, 129, [(56, ([(4, .inl (0, 8, [])), (3, cF), (0, .inr (.inl 1)), (1, .inl (2, 2, [(2, 0, 0)])), (2, .inl (-2147483648, 2147483647, [(4, 0, 0)]))], [], (pU.set 7 (.inl (4, 6, [(2014, 0, 0)])))), (16, [(4, -2)]))])
/-- 65: RecastStage$Casting.seekAll -/
def kc_65 : ck_K := (yX1_seekAll, cX1_seekAll, 5, none, 1, [.inr (.inl 1), .inl (1, 1, []), cF], pP, [(none, [], pU)], 7, 153, [(56, ([(4, .inl (0, 8, [])), (3, cF), (0, .inr (.inl 1)), (1, .inl (1, 1, [(2, 0, 0)])), (2, .inl (-2147483648, 2147483647, [(4, 0, 0)]))], [], (pU.set 7 (.inl (3, 6, [(2014, 0, 0)])))), (16, [(4, -2)]))])
/-- 66: RecastStage$Casting.seekAll -/
def kc_66 : ck_K := (yX1_seekAll, cX1_seekAll, 5, none, 1, [.inr (.inl 1), .inl (0, 0, []), cF], pP, [(none, [], pU)], 8, 177, [(56, ([(4, .inl (0, 8, [])), (3, cF), (0, .inr (.inl 1)), (1, .inl (0, 0, [(2, 0, 0)])), (2, .inl (-2147483648, 2147483647, [(4, 0, 0)]))], [], (pU.set 7 (.inl (2, 6, [(2014, 0, 0)])))), (16, [(4, -2)]))])
/-- 67: RecastStage$Play.allMen -/
def kc_67 : ck_K := (yX6_allMen, cX6_allMen, 1, (some .int), 6, [.inr (.inl 6)], pP, [(some (.inl (0, 255, [])), [], pU)], 1, 12, [])
/-- 68: RecastStage$Casting.countBy -/
def kc_68 : ck_K := (yX1_countBy, cX1_countBy, 5, (some .int), 1, [.inr (.inl 1), .inr (.inl 6), .inr (.inl 2), cF], pP, [(some (cF), [], (pU.set 7 (.inl (0, 6, []))))], 9, 201, [(26, ([(4, .inl (0, 6, [])), (0, .inr (.inl 1)), (3, .inl (-2147483648, 2147483647, [(6, 0, 0)]))], [], (pU.set 7 (.inl (0, 6, [])))), (12, [(4, -2)]))])
/-- 69: RecastStage$Casting.fewestWhispers -/
def kc_69 : ck_K := (yX1_fewestWhispers, cX1_fewestWhispers, 5, (some .int), 1, [.inr (.inl 1), .inr (.inl 6), .inr (.inl 2)], pP, [(some (cF), [], (pU.set 7 (.inl (0, 6, []))))], 10, 228, [(14, ([(3, .inl (0, 6, [])), (0, .inr (.inl 1)), (1, .inr (.inl 6)), (2, .inr (.inl 2))], [], (pU.set 7 (.inl (0, 6, [])))), (145, [(3, -21)])), (25, ([(4, .inl (0, 8, [])), (3, .inl (0, 5, [])), (0, .inr (.inl 1)), (1, .inr (.inl 6)), (2, .inr (.inl 2))], [], (pU.set 7 (.inl (1, 6, [])))), (142, [(3, -21), (4, -2)]))])
/-- 70: RecastStage$Casting.joyOfBest -/
def kc_70 : ck_K := (yX1_joyOfBest, cX1_joyOfBest, 1, (some .int), 1, [.inr (.inl 1)], pP, [(some (cF), [], pU)], 1, 12, [])
/-- 71: RecastStage$Casting.leastLoss -/
def kc_71 : ck_K := (yX1_leastLoss, cX1_leastLoss, 5, (some .int), 1, [.inr (.inl 1), .inr (.inl 6), .inr (.inl 2)], pP, [(some (cF), [], (pU.set 7 (.inl (0, 6, []))))], 10, 228, [(14, ([(3, .inl (0, 6, [])), (0, .inr (.inl 1)), (1, .inr (.inl 6)), (2, .inr (.inl 2))], [], (pU.set 7 (.inl (0, 6, [])))), (145, [(3, -21)])), (25, ([(4, .inl (0, 8, [])), (3, .inl (0, 5, [])), (0, .inr (.inl 1)), (1, .inr (.inl 6)), (2, .inr (.inl 2))], [], (pU.set 7 (.inl (1, 6, [])))), (142, [(3, -21), (4, -2)]))])
/-- 72: RecastStage$Casting.partsAt -/
def kc_72 : ck_K := (yX1_partsAt, cX1_partsAt, 4, (some .int), 1, [.inr (.inl 1), cF], pP, [(some (cF), [], pU)], 2, 33, [(4, ([(3, .inl (0, 6, [])), (2, cF), (0, .inr (.inl 1)), (1, .inl (-2147483648, 2147483647, [(2, 0, 0)]))], [], pU), (12, [(3, -2)]))])
/-- 73: RecastStage$Casting.shortSet -/
def kc_73 : ck_K := (yX1_shortSet, cX1_shortSet, 6, (some .int), 1, [.inr (.inl 1), .inr (.inl 6), .inr (.inl 2)], pP, [(some (cF), [], (pU.set 7 (.inl (0, 6, []))))], 5, 110, [(17, ([(4, .inl (1, 64, [])), (3, .inl (0, 63, [])), (0, .inr (.inl 1))], [], (pU.set 7 (.inl (0, 6, [])))), (128, [(4, -2)]))])
/-- 74: RecastStage$Play.suspectsWith -/
def kc_74 : ck_K := (yX6_suspectsWith, cX6_suspectsWith, 4, (some .int), 6, [.inr (.inl 6), cF], pP, [(some (.inl (0, 63, [])), [], pU)], 2, 33, [(11, ([(3, .inl (0, 6, [])), (2, .inl (0, 63, [])), (0, .inr (.inl 6)), (1, .inl (-2147483648, 2147483647, [(2, 0, 0)]))], [], pU), (12, [(3, -2)]))])
/-- 75: RecastStage$Play.isSureWith -/
def kc_75 : ck_K := (yX6_isSureWith, cX6_isSureWith, 2, (some .boolean), 6, [.inr (.inl 6), cF], pP, [(some (.inl (0, 0, [])), [], pU), (some (.inl (1, 1, [])), [], pU)], 3, 56, [])
/-- 76: RecastStage$Evening.sureMen -/
def kc_76 : ck_K := (yX2_sureMen, cX2_sureMen, 4, (some .int), 2, [.inr (.inl 2), .inr (.inl 6)], pP, [(some (cF), [], pU)], 4, 77, [(4, ([(3, .inl (0, 8, [])), (2, cF), (0, .inr (.inl 2)), (1, .inr (.inl 6))], [], pU), (16, [(3, -2)]))])
/-- 77: RecastStage$History.forget -/
def kc_77 : ck_K := (yX3_forget, cX3_forget, 1, none, 3, [.inr (.inl 3)], pP, [(none, [], (pU.set 8 (.inl (0, 0, []))))], 1, 12, [])
/-- 78: RecastStage$Market.raise -/
def kc_78 : ck_K := (yX5_raise, cX5_raise, 6, (some .boolean), 5, [.inr (.inl 5), .inr (.inl 6)], pP, [(some (.inl (0, 1, [])), [], pU)], 1, 12, [(4, ([(3, .inl (0, 6, [])), (2, .inl (0, 1, [])), (0, .inr (.inl 5)), (1, .inr (.inl 6))], [], pU), (145, [(3, -21)])), (18, ([(5, .inl (0, 8, [])), (4, cF), (3, .inl (0, 5, [])), (2, .inl (0, 1, [])), (0, .inr (.inl 5)), (1, .inr (.inl 6))], [], pU), (142, [(3, -21), (5, -2)]))])
/-- 79: RecastStage$Market.wishOf -/
def kc_79 : ck_K := (yX5_wishOf, cX5_wishOf, 9, (some .int), 5, [.inr (.inl 5), .inl (0, 7, []), .inr (.inl 6), .inr (.inl 1)], pP, [(some (.inl (-1, 5, [])), [], pU)], 2, 34, [(9, ([(6, .inl (0, 6, [])), (5, .inl (-1, 2147483647, [])), (4, .inl (-1, 5, [])), (0, .inr (.inl 5)), (1, .inl (0, 7, [(2, 0, 0)])), (2, .inr (.inl 6)), (3, .inr (.inl 1))], [], pU), (12, [(6, -2)]))])
/-- 80: RecastStage$Play.actsWith -/
def kc_80 : ck_K := (yX6_actsWith, cX6_actsWith, 4, (some .int), 6, [.inr (.inl 6), cF], pP, [(some (cF), [], pU)], 2, 33, [(4, ([(3, .inl (0, 12, [])), (2, cF), (0, .inr (.inl 6)), (1, .inl (-2147483648, 2147483647, [(2, 0, 0)]))], [], pU), (24, [(3, -2)]))])
/-- 81: RecastStage$Play.copyFrom -/
def kc_81 : ck_K := (yX6_copyFrom, cX6_copyFrom, 2, none, 6, [.inr (.inl 6), .inr (.inl 6)], pP, [(none, [], pU)], 1, 26, [])
/-- 82: RecastStage$Play.copyFrom -/
def kc_82 : ck_K := (yX6_copyFrom, cX6_copyFrom, 2, none, 6, [.inr (.inl 6), .inr (.inl 13)], pP, [(none, [], pU)], 1, 26, [])
/-- 83: RecastStage$Play.factsOf -/
def kc_83 : ck_K := (yX6_factsOf, cX6_factsOf, 4, (some .int), 6, [.inr (.inl 6), cF], pP, [(some (cF), [], pU)], 1, 12, [(4, ([(3, .inl (0, 12, [])), (2, cF), (0, .inr (.inl 6)), (1, .inl (-2147483648, 2147483647, [(2, 0, 0)]))], [], pU), (24, [(3, -2)]))])
/-- 84: RecastStage$Play.hasFact -/
def kc_84 : ck_K := (yX6_hasFact, cX6_hasFact, 2, (some .boolean), 6, [.inr (.inl 6), cF], pP, [(some (.inl (0, 0, [])), [], pU), (some (.inl (1, 1, [])), [(1, 0, 5)], pU)], 1, 12, [])
/-- 85: RecastStage$Play.hasMan -/
def kc_85 : ck_K := (yX6_hasMan, cX6_hasMan, 2, (some .boolean), 6, [.inr (.inl 6), cF], pP, [(some (.inl (0, 0, [])), [], pU), (some (.inl (1, 1, [])), [(1, 0, 7)], pU)], 1, 12, [])
/-- 86: RecastStage$Play.hasName -/
def kc_86 : ck_K := (yX6_hasName, cX6_hasName, 3, (some .boolean), 6, [.inr (.inl 13), .inr (.inr ())], pP, [(some (.inl (0, 0, [])), [], pU), (some (.inl (1, 1, [])), [], pU)], 2, 36, [])
/-- 87: RecastStage$Play.hasPart -/
def kc_87 : ck_K := (yX6_hasPart, cX6_hasPart, 2, (some .boolean), 6, [.inr (.inl 6), cF], pP, [(some (.inl (0, 0, [])), [], pU), (some (.inl (1, 1, [])), [(1, 0, 5)], pU)], 1, 12, [])
/-- 88: RecastStage$Play.scenesOf -/
def kc_88 : ck_K := (yX6_scenesOf, cX6_scenesOf, 4, (some .int), 6, [.inr (.inl 6), cF], pP, [(some (cF), [], pU)], 1, 12, [(4, ([(3, .inl (0, 12, [])), (2, cF), (0, .inr (.inl 6)), (1, .inl (-2147483648, 2147483647, [(2, 0, 0)]))], [], pU), (24, [(3, -2)]))])
/-- 89: RecastStage$PlayReader.takeOneOf -/
def kc_89 : ck_K := (yX7_takeOneOf, cX7_takeOneOf, 3, (some .boolean), 7, [.inr (.inl 8), cF, .inl (6, 6, [])], pP, [(some (.inl (0, 0, [])), [(1, 6, 2147483647)], pU), (some (.inl (1, 1, [])), [(1, -2147483648, 5)], (pU.set 1 (.inl (0, 940, [(2002, 0, 940)]))))], 4, 80, [])
/-- 90: RecastStage$PlayReader.takeOneOf -/
def kc_90 : ck_K := (yX7_takeOneOf, cX7_takeOneOf, 3, (some .boolean), 7, [.inr (.inl 8), cF, .inl (8, 8, [])], pP, [(some (.inl (0, 0, [])), [(1, 8, 2147483647)], pU), (some (.inl (1, 1, [])), [(1, -2147483648, 7)], (pU.set 1 (.inl (0, 940, [(2002, 0, 940)]))))], 4, 80, [])
/-- 91: RecastStage$PlayReader.takeOneOf -/
def kc_91 : ck_K := (yX7_takeOneOf, cX7_takeOneOf, 3, (some .boolean), 7, [.inr (.inl 8), cF, .inl (12, 12, [])], pP, [(some (.inl (0, 0, [])), [(1, 12, 2147483647)], pU), (some (.inl (1, 1, [])), [(1, -2147483648, 11)], (pU.set 1 (.inl (0, 940, [(2002, 0, 940)]))))], 4, 80, [])
/-- 92: RecastStage$PlayReader.readAct -/
def kc_92 : ck_K := (yX7_readAct, cX7_readAct, 2, none, 7, [.inr (.inl 7), .inr (.inl 8)], pP, [(none, [], ((pU.set 1 (.inl (0, 940, [(2002, 0, 940)]))).set 5 (.inl (1, 6, [(2010, 0, 1)]))))], 5, 102, [])
/-- 93: RecastStage$PlayReader.takeOnce -/
def kc_93 : ck_K := (yX7_takeOnce, cX7_takeOnce, 3, (some .int), 7, [.inr (.inl 8), cF, cF], pP, [(some (cF), [], (pU.set 1 (.inl (0, 940, [(2002, 0, 940)]))))], 4, 80, [])
/-- 94: RecastStage$PlayReader.readClears -/
def kc_94 : ck_K := (yX7_readClears, cX7_readClears, 4, none, 7, [.inr (.inl 7), .inr (.inl 8)], pP, [(none, [], (pU.set 1 (.inl (0, 940, [(2002, 0, 940)]))))], 5, 103, [])
/-- 95: RecastStage$PlayReader.takeNewName -/
def kc_95 : ck_K := (yX7_takeNewName, cX7_takeNewName, 4, (some .boolean), 7, [.inr (.inl 7), .inr (.inl 8), .inr (.inl 17), .inl (0, 8, [])], pP, [(some (.inl (0, 0, [])), [], pU), (some (.inl (1, 1, [])), [], (pU.set 1 (.inl (0, 940, [(2002, 0, 940)]))))], 4, 80, [])
/-- 96: RecastStage$PlayReader.takeNewName -/
def kc_96 : ck_K := (yX7_takeNewName, cX7_takeNewName, 4, (some .boolean), 7, [.inr (.inl 7), .inr (.inl 8), .inr (.inl 18), .inl (0, 8, [])], pP, [(some (.inl (0, 0, [])), [], pU), (some (.inl (1, 1, [])), [], (pU.set 1 (.inl (0, 940, [(2002, 0, 940)]))))], 4, 80, [])
/-- 97: RecastStage$PlayReader.readFact -/
def kc_97 : ck_K := (yX7_readFact, cX7_readFact, 2, none, 7, [.inr (.inl 7), .inr (.inl 8)], pP, [(none, [], ((pU.set 1 (.inl (0, 940, [(2002, 0, 940)]))).set 3 (.inl (0, 6, [(2006, 0, 1)]))))], 5, 103, [])
/-- 98: RecastStage$PlayReader.readFoes -/
def kc_98 : ck_K := (yX7_readFoes, cX7_readFoes, 4, none, 7, [.inr (.inl 7), .inr (.inl 8)], pP, [(none, [], (pU.set 1 (.inl (0, 940, [(2002, 0, 940)]))))], 5, 103, [])
/-- 99: RecastStage$Reader.takeNumber -/
def kc_99 : ck_K := (yX8_takeNumber, cX8_takeNumber, 4, (some .int), 8, [.inr (.inl 8), cF, cF], pP, [(some (cF), [], (pU.set 1 (.inl (0, 940, [(2002, 0, 940)]))))], 4, 80, [])
/-- 100: RecastStage$PlayReader.readLikes -/
def kc_100 : ck_K := (yX7_readLikes, cX7_readLikes, 4, none, 7, [.inr (.inl 7), .inr (.inl 8)], pP, [(none, [], (pU.set 1 (.inl (0, 940, [(2002, 0, 940)]))))], 5, 103, [])
/-- 101: RecastStage$PlayReader.readMan -/
def kc_101 : ck_K := (yX7_readMan, cX7_readMan, 2, none, 7, [.inr (.inl 7), .inr (.inl 8)], pP, [(none, [], ((pU.set 1 (.inl (0, 940, [(2002, 0, 940)]))).set 4 (.inl (0, 8, [(2008, 0, 1)]))))], 5, 103, [])
/-- 102: RecastStage$PlayReader.readNeeds -/
def kc_102 : ck_K := (yX7_readNeeds, cX7_readNeeds, 4, none, 7, [.inr (.inl 7), .inr (.inl 8)], pP, [(none, [], (pU.set 1 (.inl (0, 940, [(2002, 0, 940)]))))], 5, 103, [])
/-- 103: RecastStage$PlayReader.readNever -/
def kc_103 : ck_K := (yX7_readNever, cX7_readNever, 4, none, 7, [.inr (.inl 7), .inr (.inl 8)], pP, [(none, [], (pU.set 1 (.inl (0, 940, [(2002, 0, 940)]))))], 5, 103, [])
/-- 104: RecastStage$PlayReader.readPart -/
def kc_104 : ck_K := (yX7_readPart, cX7_readPart, 2, none, 7, [.inr (.inl 7), .inr (.inl 8)], pP, [(none, [], ((pU.set 1 (.inl (0, 940, [(2002, 0, 940)]))).set 2 (.inl (0, 6, [(2004, 0, 1)]))))], 5, 103, [])
/-- 105: RecastStage$PlayReader.readRest -/
def kc_105 : ck_K := (yX7_readRest, cX7_readRest, 2, none, 7, [.inr (.inl 7), .inr (.inl 8)], pP, [(none, [], (pU.set 1 (.inl (0, 940, [(2002, 0, 940)]))))], 4, 80, [])
/-- 106: RecastStage$PlayReader.readScene -/
def kc_106 : ck_K := (yX7_readScene, cX7_readScene, 5, none, 7, [.inr (.inl 7), .inr (.inl 8)], pP, [(none, [], ((pU.set 1 (.inl (0, 940, [(2002, 0, 940)]))).set 6 (.inl (0, 12, [(2012, 0, 1)]))))], 5, 102, [(74, ([(3, .inl (0, 7, [])), (2, .inl (0, 11, [(2012, 0, 0)])), (0, .inr (.inl 7)), (1, .inr (.inl 8))], [], (((pU.set 1 (.inl (0, 940, [(2002, 0, 940)]))).set 5 (.inl (1, 6, [(2010, 0, 0)]))).set 6 (.inl (1, 12, [(2012, 1, 1)])))), (14, [(3, -2)]))])
/-- 107: RecastStage$PlayReader.readShows -/
def kc_107 : ck_K := (yX7_readShows, cX7_readShows, 4, none, 7, [.inr (.inl 7), .inr (.inl 8)], pP, [(none, [], (pU.set 1 (.inl (0, 940, [(2002, 0, 940)]))))], 5, 102, [])
/-- 108: RecastStage$PlayReader.readLine -/
def kc_108 : ck_K := (yX7_readLine, cX7_readLine, 2, none, 7, [.inr (.inl 7), .inr (.inl 8)], pP, [(none, [], ((((((pU.set 1 (.inl (0, 940, [(2002, 0, 940)]))).set 2 (.inl (0, 6, [(2004, 0, 1)]))).set 3 (.inl (0, 6, [(2006, 0, 1)]))).set 4 (.inl (0, 8, [(2008, 0, 1)]))).set 5 (.inl (0, 6, [(2010, 0, 1)]))).set 6 (.inl (0, 12, [(2012, 0, 1)]))))], 6, 126, [])
/-- 109: RecastStage$Reader.open -/
def kc_109 : ck_K := (yX8_open, cX8_open, 2, none, 8, [.inr (.inl 8), .inl (0, 900, [])], pP, [(none, [], (pU.set 1 (.inl (0, 940, []))))], 4, 80, [])
/-- 110: RecastStage$Sentence.addStep -/
def kc_110 : ck_K := (yX9_addStep, cX9_addStep, 4, none, 9, [.inr (.inl 14), cF, cF, cF], pP, [(none, [], (pU.set 10 (.inl (1, 40, [(2020, 0, 1)]))))], 1, 12, [])
/-- 111: RecastStage$Sentence.clear -/
def kc_111 : ck_K := (yX9_clear, cX9_clear, 1, none, 9, [.inr (.inl 9)], pP, [(none, [], pU)], 1, 12, [])
/-- 112: RecastStage$Sentence.clear -/
def kc_112 : ck_K := (yX9_clear, cX9_clear, 1, none, 9, [.inr (.inl 14)], pP, [(none, [], ((pU.set 9 (.inl (0, 0, []))).set 10 (.inl (0, 0, []))))], 1, 12, [])
/-- 113: RecastStage$Sentence.compares -/
def kc_113 : ck_K := (yX9_compares, cX9_compares, 3, (some .boolean), 9, [.inr (.inl 9), cF, .inl (0, 39, [])], pP, [(some (.inl (0, 0, [])), [], pU), (some (.inl (1, 1, [])), [], pU)], 1, 12, [])
/-- 114: RecastStage$Sentence.copyFrom -/
def kc_114 : ck_K := (yX9_copyFrom, cX9_copyFrom, 2, none, 9, [.inr (.inl 9), .inr (.inl 9)], pP, [(none, [], pU)], 1, 26, [])
/-- 115: RecastStage$Sentence.copyFrom -/
def kc_115 : ck_K := (yX9_copyFrom, cX9_copyFrom, 2, none, 9, [.inr (.inl 9), .inr (.inl 14)], pP, [(none, [], pU)], 1, 26, [])
/-- 116: RecastStage$Sentence.holdsFor -/
def kc_116 : ck_K := (yX9_holdsFor, cX9_holdsFor, 5, (some .boolean), 9, [.inr (.inl 9), .inl (0, 7, []), .inl (0, 39, []), .inr (.inl 6), .inr (.inl 2)], pP, [(some (.inl (0, 0, [])), [], pU), (some (.inl (1, 1, [])), [], pU)], 2, 34, [])
/-- 117: RecastStage$Sentence.menOfOne -/
def kc_117 : ck_K := (yX9_menOfOne, cX9_menOfOne, 6, (some .int), 9, [.inr (.inl 9), .inl (0, 39, []), .inr (.inl 6), .inr (.inl 2)], pP, [(some (cF), [], pU)], 5, 100, [(65, ([(5, .inl (0, 8, [])), (4, cF), (0, .inr (.inl 9)), (1, .inl (0, 39, [(2, 0, 0)])), (2, .inr (.inl 6)), (3, .inr (.inl 2))], [], pU), (16, [(5, -2)]))])
/-- 118: RecastStage$Sentence.menOf -/
def kc_118 : ck_K := (yX9_menOf, cX9_menOf, 6, (some .int), 9, [.inr (.inl 9), .inr (.inl 6), .inr (.inl 2)], pP, [(some (cF), [], pU)], 6, 125, [(5, ([(4, .inl (0, 40, [])), (3, .inl (-1, 39, [])), (0, .inr (.inl 9)), (1, .inr (.inl 6)), (2, .inr (.inl 2))], [], pU), (80, [(4, -2)]))])
/-- 119: RecastStage$Sentence.readPlainOne -/
def kc_119 : ck_K := (yX9_readPlainOne, cX9_readPlainOne, 5, none, 9, [.inr (.inl 14), .inr (.inl 8), .inr (.inl 6), cF], pP, [(none, [], ((pU.set 1 (.inl (0, 940, [(2002, 0, 940)]))).set 10 (.inl (0, 40, [(2020, 0, 1)]))))], 5, 103, [])
/-- 120: RecastStage$Sentence.readOne -/
def kc_120 : ck_K := (yX9_readOne, cX9_readOne, 6, none, 9, [.inr (.inl 14), .inr (.inl 8), .inr (.inl 6), .inl (9, 9, [])], pP, [(none, [], pU)], 2, 33, [])
/-- 121: RecastStage$Sentence.readAll -/
def kc_121 : ck_K := (yX9_readAll, cX9_readAll, 5, none, 9, [.inr (.inl 14), .inr (.inl 8), .inr (.inl 6), .inl (8, 8, [])], pP, [(none, [], ((pU.set 1 (.inl (0, 940, [(2002, 0, 940)]))).set 10 (.inl (0, 40, [(2020, 0, 40)]))))], 4, 80, [(12, ([(4, .inl (0, 20, [])), (0, .inr (.inl 14)), (1, .inr (.inl 8)), (2, .inr (.inl 6)), (3, .inl (8, 8, [(6, 0, 0)]))], [], ((pU.set 1 (.inl (0, 940, [(2002, 0, 940)]))).set 10 (.inl (0, 40, [(2020, 0, 40)])))), (40, [(4, -2)]))])
/-- 122: RecastStage$Sentence.readCond -/
def kc_122 : ck_K := (yX9_readCond, cX9_readCond, 5, none, 9, [.inr (.inl 14), .inr (.inl 8), .inr (.inl 6), .inl (8, 8, [])], pP, [(none, [], ((pU.set 1 (.inl (0, 940, [(2002, 0, 940)]))).set 10 (.inl (0, 40, [(2020, 0, 40)]))))], 5, 104, [(10, ([(4, .inl (0, 20, [])), (0, .inr (.inl 14)), (1, .inr (.inl 8)), (2, .inr (.inl 6)), (3, .inl (8, 8, [(6, 0, 0)]))], [], ((pU.set 1 (.inl (0, 940, [(2002, 0, 940)]))).set 10 (.inl (0, 40, [(2020, 0, 40)])))), (40, [(4, -2)]))])
/-- 123: RecastStage$Sentence.readOne -/
def kc_123 : ck_K := (yX9_readOne, cX9_readOne, 6, none, 9, [.inr (.inl 14), .inr (.inl 8), .inr (.inl 6), .inl (8, 8, [])], pP, [(none, [], (((pU.set 1 (.inl (0, 940, [(2002, 0, 940)]))).set 9 (.inl (0, 20, [(2018, 0, 1)]))).set 10 (.inl (0, 40, [(2020, 0, 40)]))))], 6, 128, [])
/-- 124: RecastStage$Sentence.readAll -/
def kc_124 : ck_K := (yX9_readAll, cX9_readAll, 5, none, 9, [.inr (.inl 14), .inr (.inl 8), .inr (.inl 6), .inl (7, 7, [])], pP, [(none, [], (((pU.set 1 (.inl (0, 940, [(2002, 0, 940)]))).set 9 (.inl (0, 20, [(2018, 0, 20)]))).set 10 (.inl (0, 40, [(2020, 0, 40)]))))], 7, 153, [(12, ([(4, .inl (0, 20, [])), (0, .inr (.inl 14)), (1, .inr (.inl 8)), (2, .inr (.inl 6)), (3, .inl (7, 7, [(6, 0, 0)]))], [], (((pU.set 1 (.inl (0, 940, [(2002, 0, 940)]))).set 9 (.inl (0, 20, [(2018, 0, 20)]))).set 10 (.inl (0, 40, [(2020, 0, 40)])))), (40, [(4, -2)]))])
/-- 125: RecastStage$Sentence.readCond -/
def kc_125 : ck_K := (yX9_readCond, cX9_readCond, 5, none, 9, [.inr (.inl 14), .inr (.inl 8), .inr (.inl 6), .inl (7, 7, [])], pP, [(none, [], (((pU.set 1 (.inl (0, 940, [(2002, 0, 940)]))).set 9 (.inl (0, 20, [(2018, 0, 20)]))).set 10 (.inl (0, 40, [(2020, 0, 40)]))))], 8, 177, [(10, ([(4, .inl (0, 20, [])), (0, .inr (.inl 14)), (1, .inr (.inl 8)), (2, .inr (.inl 6)), (3, .inl (7, 7, [(6, 0, 0)]))], [], (((pU.set 1 (.inl (0, 940, [(2002, 0, 940)]))).set 9 (.inl (0, 20, [(2018, 0, 20)]))).set 10 (.inl (0, 40, [(2020, 0, 40)])))), (40, [(4, -2)]))])
/-- 126: RecastStage$Sentence.readOne -/
def kc_126 : ck_K := (yX9_readOne, cX9_readOne, 6, none, 9, [.inr (.inl 14), .inr (.inl 8), .inr (.inl 6), .inl (7, 7, [])], pP, [(none, [], (((pU.set 1 (.inl (0, 940, [(2002, 0, 940)]))).set 9 (.inl (0, 20, [(2018, 0, 20)]))).set 10 (.inl (0, 40, [(2020, 0, 40)]))))], 9, 201, [])
/-- 127: RecastStage$Sentence.readAll -/
def kc_127 : ck_K := (yX9_readAll, cX9_readAll, 5, none, 9, [.inr (.inl 14), .inr (.inl 8), .inr (.inl 6), .inl (6, 6, [])], pP, [(none, [], (((pU.set 1 (.inl (0, 940, [(2002, 0, 940)]))).set 9 (.inl (0, 20, [(2018, 0, 20)]))).set 10 (.inl (0, 40, [(2020, 0, 40)]))))], 10, 226, [(12, ([(4, .inl (0, 20, [])), (0, .inr (.inl 14)), (1, .inr (.inl 8)), (2, .inr (.inl 6)), (3, .inl (6, 6, [(6, 0, 0)]))], [], (((pU.set 1 (.inl (0, 940, [(2002, 0, 940)]))).set 9 (.inl (0, 20, [(2018, 0, 20)]))).set 10 (.inl (0, 40, [(2020, 0, 40)])))), (40, [(4, -2)]))])
/-- 128: RecastStage$Sentence.readCond -/
def kc_128 : ck_K := (yX9_readCond, cX9_readCond, 5, none, 9, [.inr (.inl 14), .inr (.inl 8), .inr (.inl 6), .inl (6, 6, [])], pP, [(none, [], (((pU.set 1 (.inl (0, 940, [(2002, 0, 940)]))).set 9 (.inl (0, 20, [(2018, 0, 20)]))).set 10 (.inl (0, 40, [(2020, 0, 40)]))))], 11, 250, [(10, ([(4, .inl (0, 20, [])), (0, .inr (.inl 14)), (1, .inr (.inl 8)), (2, .inr (.inl 6)), (3, .inl (6, 6, [(6, 0, 0)]))], [], (((pU.set 1 (.inl (0, 940, [(2002, 0, 940)]))).set 9 (.inl (0, 20, [(2018, 0, 20)]))).set 10 (.inl (0, 40, [(2020, 0, 40)])))), (40, [(4, -2)]))])
/-- 129: RecastStage$Sentence.readOne -/
def kc_129 : ck_K := (yX9_readOne, cX9_readOne, 6, none, 9, [.inr (.inl 14), .inr (.inl 8), .inr (.inl 6), .inl (6, 6, [])], pP, [(none, [], (((pU.set 1 (.inl (0, 940, [(2002, 0, 940)]))).set 9 (.inl (0, 20, [(2018, 0, 20)]))).set 10 (.inl (0, 40, [(2020, 0, 40)]))))], 12, 274, [])
/-- 130: RecastStage$Sentence.readAll -/
def kc_130 : ck_K := (yX9_readAll, cX9_readAll, 5, none, 9, [.inr (.inl 14), .inr (.inl 8), .inr (.inl 6), .inl (5, 5, [])], pP, [(none, [], (((pU.set 1 (.inl (0, 940, [(2002, 0, 940)]))).set 9 (.inl (0, 20, [(2018, 0, 20)]))).set 10 (.inl (0, 40, [(2020, 0, 40)]))))], 13, 299, [(12, ([(4, .inl (0, 20, [])), (0, .inr (.inl 14)), (1, .inr (.inl 8)), (2, .inr (.inl 6)), (3, .inl (5, 5, [(6, 0, 0)]))], [], (((pU.set 1 (.inl (0, 940, [(2002, 0, 940)]))).set 9 (.inl (0, 20, [(2018, 0, 20)]))).set 10 (.inl (0, 40, [(2020, 0, 40)])))), (40, [(4, -2)]))])
/-- 131: RecastStage$Sentence.readCond -/
def kc_131 : ck_K := (yX9_readCond, cX9_readCond, 5, none, 9, [.inr (.inl 14), .inr (.inl 8), .inr (.inl 6), .inl (5, 5, [])], pP, [(none, [], (((pU.set 1 (.inl (0, 940, [(2002, 0, 940)]))).set 9 (.inl (0, 20, [(2018, 0, 20)]))).set 10 (.inl (0, 40, [(2020, 0, 40)]))))], 14, 323, [(10, ([(4, .inl (0, 20, [])), (0, .inr (.inl 14)), (1, .inr (.inl 8)), (2, .inr (.inl 6)), (3, .inl (5, 5, [(6, 0, 0)]))], [], (((pU.set 1 (.inl (0, 940, [(2002, 0, 940)]))).set 9 (.inl (0, 20, [(2018, 0, 20)]))).set 10 (.inl (0, 40, [(2020, 0, 40)])))), (40, [(4, -2)]))])
/-- 132: RecastStage$Sentence.readOne -/
def kc_132 : ck_K := (yX9_readOne, cX9_readOne, 6, none, 9, [.inr (.inl 14), .inr (.inl 8), .inr (.inl 6), .inl (5, 5, [])], pP, [(none, [], (((pU.set 1 (.inl (0, 940, [(2002, 0, 940)]))).set 9 (.inl (0, 20, [(2018, 0, 20)]))).set 10 (.inl (0, 40, [(2020, 0, 40)]))))], 15, 347, [])
/-- 133: RecastStage$Sentence.readAll -/
def kc_133 : ck_K := (yX9_readAll, cX9_readAll, 5, none, 9, [.inr (.inl 14), .inr (.inl 8), .inr (.inl 6), .inl (4, 4, [])], pP, [(none, [], (((pU.set 1 (.inl (0, 940, [(2002, 0, 940)]))).set 9 (.inl (0, 20, [(2018, 0, 20)]))).set 10 (.inl (0, 40, [(2020, 0, 40)]))))], 16, 372, [(12, ([(4, .inl (0, 20, [])), (0, .inr (.inl 14)), (1, .inr (.inl 8)), (2, .inr (.inl 6)), (3, .inl (4, 4, [(6, 0, 0)]))], [], (((pU.set 1 (.inl (0, 940, [(2002, 0, 940)]))).set 9 (.inl (0, 20, [(2018, 0, 20)]))).set 10 (.inl (0, 40, [(2020, 0, 40)])))), (40, [(4, -2)]))])
/-- 134: RecastStage$Sentence.readCond -/
def kc_134 : ck_K := (yX9_readCond, cX9_readCond, 5, none, 9, [.inr (.inl 14), .inr (.inl 8), .inr (.inl 6), .inl (4, 4, [])], pP, [(none, [], (((pU.set 1 (.inl (0, 940, [(2002, 0, 940)]))).set 9 (.inl (0, 20, [(2018, 0, 20)]))).set 10 (.inl (0, 40, [(2020, 0, 40)]))))], 17, 396, [(10, ([(4, .inl (0, 20, [])), (0, .inr (.inl 14)), (1, .inr (.inl 8)), (2, .inr (.inl 6)), (3, .inl (4, 4, [(6, 0, 0)]))], [], (((pU.set 1 (.inl (0, 940, [(2002, 0, 940)]))).set 9 (.inl (0, 20, [(2018, 0, 20)]))).set 10 (.inl (0, 40, [(2020, 0, 40)])))), (40, [(4, -2)]))])
/-- 135: RecastStage$Sentence.readOne -/
def kc_135 : ck_K := (yX9_readOne, cX9_readOne, 6, none, 9, [.inr (.inl 14), .inr (.inl 8), .inr (.inl 6), .inl (4, 4, [])], pP, [(none, [], (((pU.set 1 (.inl (0, 940, [(2002, 0, 940)]))).set 9 (.inl (0, 20, [(2018, 0, 20)]))).set 10 (.inl (0, 40, [(2020, 0, 40)]))))], 18, 420, [])
/-- 136: RecastStage$Sentence.readAll -/
def kc_136 : ck_K := (yX9_readAll, cX9_readAll, 5, none, 9, [.inr (.inl 14), .inr (.inl 8), .inr (.inl 6), .inl (3, 3, [])], pP, [(none, [], (((pU.set 1 (.inl (0, 940, [(2002, 0, 940)]))).set 9 (.inl (0, 20, [(2018, 0, 20)]))).set 10 (.inl (0, 40, [(2020, 0, 40)]))))], 19, 445, [(12, ([(4, .inl (0, 20, [])), (0, .inr (.inl 14)), (1, .inr (.inl 8)), (2, .inr (.inl 6)), (3, .inl (3, 3, [(6, 0, 0)]))], [], (((pU.set 1 (.inl (0, 940, [(2002, 0, 940)]))).set 9 (.inl (0, 20, [(2018, 0, 20)]))).set 10 (.inl (0, 40, [(2020, 0, 40)])))), (40, [(4, -2)]))])
/-- 137: RecastStage$Sentence.readCond -/
def kc_137 : ck_K := (yX9_readCond, cX9_readCond, 5, none, 9, [.inr (.inl 14), .inr (.inl 8), .inr (.inl 6), .inl (3, 3, [])], pP, [(none, [], (((pU.set 1 (.inl (0, 940, [(2002, 0, 940)]))).set 9 (.inl (0, 20, [(2018, 0, 20)]))).set 10 (.inl (0, 40, [(2020, 0, 40)]))))], 20, 469, [(10, ([(4, .inl (0, 20, [])), (0, .inr (.inl 14)), (1, .inr (.inl 8)), (2, .inr (.inl 6)), (3, .inl (3, 3, [(6, 0, 0)]))], [], (((pU.set 1 (.inl (0, 940, [(2002, 0, 940)]))).set 9 (.inl (0, 20, [(2018, 0, 20)]))).set 10 (.inl (0, 40, [(2020, 0, 40)])))), (40, [(4, -2)]))])
/-- 138: RecastStage$Sentence.readOne -/
def kc_138 : ck_K := (yX9_readOne, cX9_readOne, 6, none, 9, [.inr (.inl 14), .inr (.inl 8), .inr (.inl 6), .inl (3, 3, [])], pP, [(none, [], (((pU.set 1 (.inl (0, 940, [(2002, 0, 940)]))).set 9 (.inl (0, 20, [(2018, 0, 20)]))).set 10 (.inl (0, 40, [(2020, 0, 40)]))))], 21, 493, [])
/-- 139: RecastStage$Sentence.readAll -/
def kc_139 : ck_K := (yX9_readAll, cX9_readAll, 5, none, 9, [.inr (.inl 14), .inr (.inl 8), .inr (.inl 6), .inl (2, 2, [])], pP, [(none, [], (((pU.set 1 (.inl (0, 940, [(2002, 0, 940)]))).set 9 (.inl (0, 20, [(2018, 0, 20)]))).set 10 (.inl (0, 40, [(2020, 0, 40)]))))], 22, 518, [(12, ([(4, .inl (0, 20, [])), (0, .inr (.inl 14)), (1, .inr (.inl 8)), (2, .inr (.inl 6)), (3, .inl (2, 2, [(6, 0, 0)]))], [], (((pU.set 1 (.inl (0, 940, [(2002, 0, 940)]))).set 9 (.inl (0, 20, [(2018, 0, 20)]))).set 10 (.inl (0, 40, [(2020, 0, 40)])))), (40, [(4, -2)]))])
/-- 140: RecastStage$Sentence.readCond -/
def kc_140 : ck_K := (yX9_readCond, cX9_readCond, 5, none, 9, [.inr (.inl 14), .inr (.inl 8), .inr (.inl 6), .inl (2, 2, [])], pP, [(none, [], (((pU.set 1 (.inl (0, 940, [(2002, 0, 940)]))).set 9 (.inl (0, 20, [(2018, 0, 20)]))).set 10 (.inl (0, 40, [(2020, 0, 40)]))))], 23, 542, [(10, ([(4, .inl (0, 20, [])), (0, .inr (.inl 14)), (1, .inr (.inl 8)), (2, .inr (.inl 6)), (3, .inl (2, 2, [(6, 0, 0)]))], [], (((pU.set 1 (.inl (0, 940, [(2002, 0, 940)]))).set 9 (.inl (0, 20, [(2018, 0, 20)]))).set 10 (.inl (0, 40, [(2020, 0, 40)])))), (40, [(4, -2)]))])
/-- 141: RecastStage$Sentence.readOne -/
def kc_141 : ck_K := (yX9_readOne, cX9_readOne, 6, none, 9, [.inr (.inl 14), .inr (.inl 8), .inr (.inl 6), .inl (2, 2, [])], pP, [(none, [], (((pU.set 1 (.inl (0, 940, [(2002, 0, 940)]))).set 9 (.inl (0, 20, [(2018, 0, 20)]))).set 10 (.inl (0, 40, [(2020, 0, 40)]))))], 24, 566, [])
/-- 142: RecastStage$Sentence.readAll -/
def kc_142 : ck_K := (yX9_readAll, cX9_readAll, 5, none, 9, [.inr (.inl 14), .inr (.inl 8), .inr (.inl 6), .inl (1, 1, [])], pP, [(none, [], (((pU.set 1 (.inl (0, 940, [(2002, 0, 940)]))).set 9 (.inl (0, 20, [(2018, 0, 20)]))).set 10 (.inl (0, 40, [(2020, 0, 40)]))))], 25, 591, [(12, ([(4, .inl (0, 20, [])), (0, .inr (.inl 14)), (1, .inr (.inl 8)), (2, .inr (.inl 6)), (3, .inl (1, 1, [(6, 0, 0)]))], [], (((pU.set 1 (.inl (0, 940, [(2002, 0, 940)]))).set 9 (.inl (0, 20, [(2018, 0, 20)]))).set 10 (.inl (0, 40, [(2020, 0, 40)])))), (40, [(4, -2)]))])
/-- 143: RecastStage$Sentence.readCond -/
def kc_143 : ck_K := (yX9_readCond, cX9_readCond, 5, none, 9, [.inr (.inl 14), .inr (.inl 8), .inr (.inl 6), .inl (1, 1, [])], pP, [(none, [], (((pU.set 1 (.inl (0, 940, [(2002, 0, 940)]))).set 9 (.inl (0, 20, [(2018, 0, 20)]))).set 10 (.inl (0, 40, [(2020, 0, 40)]))))], 26, 615, [(10, ([(4, .inl (0, 20, [])), (0, .inr (.inl 14)), (1, .inr (.inl 8)), (2, .inr (.inl 6)), (3, .inl (1, 1, [(6, 0, 0)]))], [], (((pU.set 1 (.inl (0, 940, [(2002, 0, 940)]))).set 9 (.inl (0, 20, [(2018, 0, 20)]))).set 10 (.inl (0, 40, [(2020, 0, 40)])))), (40, [(4, -2)]))])
/-- 144: RecastStage$Sentence.readOne -/
def kc_144 : ck_K := (yX9_readOne, cX9_readOne, 6, none, 9, [.inr (.inl 14), .inr (.inl 8), .inr (.inl 6), .inl (1, 1, [])], pP, [(none, [], (((pU.set 1 (.inl (0, 940, [(2002, 0, 940)]))).set 9 (.inl (0, 20, [(2018, 0, 20)]))).set 10 (.inl (0, 40, [(2020, 0, 40)]))))], 27, 639, [])
/-- 145: RecastStage$Sentence.readAll -/
def kc_145 : ck_K := (yX9_readAll, cX9_readAll, 5, none, 9, [.inr (.inl 14), .inr (.inl 8), .inr (.inl 6), .inl (0, 0, [])], pP, [(none, [], (((pU.set 1 (.inl (0, 940, [(2002, 0, 940)]))).set 9 (.inl (0, 20, [(2018, 0, 20)]))).set 10 (.inl (0, 40, [(2020, 0, 40)]))))], 28, 664, [(12, ([(4, .inl (0, 20, [])), (0, .inr (.inl 14)), (1, .inr (.inl 8)), (2, .inr (.inl 6)), (3, .inl (0, 0, [(6, 0, 0)]))], [], (((pU.set 1 (.inl (0, 940, [(2002, 0, 940)]))).set 9 (.inl (0, 20, [(2018, 0, 20)]))).set 10 (.inl (0, 40, [(2020, 0, 40)])))), (40, [(4, -2)]))])
/-- 146: RecastStage$Sentence.readCond -/
def kc_146 : ck_K := (yX9_readCond, cX9_readCond, 5, none, 9, [.inr (.inl 14), .inr (.inl 8), .inr (.inl 6), .inl (0, 0, [])], pP, [(none, [], (((pU.set 1 (.inl (0, 940, [(2002, 0, 940)]))).set 9 (.inl (0, 20, [(2018, 0, 20)]))).set 10 (.inl (0, 40, [(2020, 0, 40)]))))], 29, 688, [(10, ([(4, .inl (0, 20, [])), (0, .inr (.inl 14)), (1, .inr (.inl 8)), (2, .inr (.inl 6)), (3, .inl (0, 0, [(6, 0, 0)]))], [], (((pU.set 1 (.inl (0, 940, [(2002, 0, 940)]))).set 9 (.inl (0, 20, [(2018, 0, 20)]))).set 10 (.inl (0, 40, [(2020, 0, 40)])))), (40, [(4, -2)]))])
/-- 147: RecastStage$Sentence.read -/
def kc_147 : ck_K := (yX9_read, cX9_read, 3, none, 9, [.inr (.inl 14), .inr (.inl 8), .inr (.inl 6)], pP, [(none, [], (((pU.set 1 (.inl (0, 940, [(2002, 0, 940)]))).set 9 (.inl (0, 20, []))).set 10 (.inl (0, 40, []))))], 30, 712, [])
/-- 148: RecastStage$Tape.hasRoom -/
def kc_148 : ck_K := (yX10_hasRoom, cX10_hasRoom, 2, (some .boolean), 10, [.inr (.inl 10), .inl (4, 4, [])], pP, [(some (.inl (0, 0, [])), [], (pU.set 0 (.inl (937, 940, [(2000, 0, 0)])))), (some (.inl (1, 1, [])), [], (pU.set 0 (.inl (0, 936, [(2000, 0, 0)]))))], 1, 12, [])
/-- 149: RecastStage$Tape.hasRoom -/
def kc_149 : ck_K := (yX10_hasRoom, cX10_hasRoom, 2, (some .boolean), 10, [.inr (.inl 10), .inl (20, 20, [])], pP, [(some (.inl (0, 0, [])), [], (pU.set 0 (.inl (921, 940, [(2000, 0, 0)])))), (some (.inl (1, 1, [])), [], (pU.set 0 (.inl (0, 920, [(2000, 0, 0)]))))], 1, 12, [])
/-- 150: RecastStage$Tape.append -/
def kc_150 : ck_K := (yX10_append, cX10_append, 2, none, 10, [.inr (.inl 10), cF], (pP.set 0 (.inl (0, 936, []))), [(none, [], (pU.set 0 (.inl (4, 940, [(2000, 4, 4)]))))], 2, 33, [])
/-- 151: RecastStage.act -/
def kc_151 : ck_K := (yX11_act, cX11_act, 3, (some .int), 11, [.inr (.inl 11), cF, cF], pP, [(some (cF), [], pU)], 2, 35, [])
/-- 152: RecastStage.bestAs -/
def kc_152 : ck_K := (yX11_bestAs, cX11_bestAs, 2, (some .int), 11, [.inr (.inl 11), cF], pP, [(some (.inl (-1, 7, [])), [], pU)], 2, 33, [])
/-- 153: RecastStage.booked -/
def kc_153 : ck_K := (yX11_booked, cX11_booked, 2, (some .int), 11, [.inr (.inl 11), cF], pP, [(some (cF), [], pU)], 1, 12, [])
/-- 154: RecastStage.bowed -/
def kc_154 : ck_K := (yX11_bowed, cX11_bowed, 3, (some .int), 11, [.inr (.inl 11), cF], pP, [(some (cF), [], (pU.set 7 (.inl (0, 6, []))))], 10, 225, [])
/-- 155: RecastStage.casts -/
def kc_155 : ck_K := (yX11_casts, cX11_casts, 1, (some .int), 11, [.inr (.inl 11)], pP, [(some (cF), [], (pU.set 7 (.inl (0, 6, []))))], 10, 225, [])
/-- 156: RecastStage.count -/
def kc_156 : ck_K := (yX11_count, cX11_count, 2, (some .int), 11, [.inr (.inl 11), cF], pP, [(some (.inl (-1, 940, [])), [], pU)], 1, 12, [])
/-- 157: RecastStage.end -/
def kc_157 : ck_K := (yX11_end, cX11_end, 2, (some .boolean), 11, [.inr (.inl 11), cF], pP, [(some (.inl (0, 0, [])), [], pU), (some (.inl (1, 1, [])), [(1, 0, 940)], (pU.set 0 (.inl (0, 940, []))))], 1, 12, [])
/-- 158: RecastStage.fault -/
def kc_158 : ck_K := (yX11_fault, cX11_fault, 1, (some .int), 11, [.inr (.inl 11)], pP, [(some (.inl (0, 4, [])), [], pU)], 1, 12, [])
/-- 159: RecastStage.firstWithMost -/
def kc_159 : ck_K := (yX11_firstWithMost, cX11_firstWithMost, 5, (some .int), 11, [.inr (.inl 11), .inr (.inl 21), cF], pP, [(some (.inl (-1, 7, [])), [], pU)], 1, 12, [(5, ([(4, .inl (0, 8, [])), (3, .inl (-1, 7, [])), (0, .inr (.inl 11)), (1, .inr (.inl 21)), (2, .inl (-2147483648, 2147483647, [(4, 0, 0)]))], [], pU), (16, [(4, -2)]))])
/-- 160: RecastStage.favourite -/
def kc_160 : ck_K := (yX11_favourite, cX11_favourite, 2, (some .int), 11, [.inr (.inl 11), cF], pP, [(some (.inl (-1, 7, [])), [], pU)], 2, 36, [])
/-- 161: RecastStage.feed -/
def kc_161 : ck_K := (yX11_feed, cX11_feed, 6, (some .int), 11, [.inr (.inl 11), cF, cF, cF, cF, cF], pP, [(some (.inl (-1, -1, [])), [], (pU.set 0 (.inl (921, 940, [(2000, 0, 0)])))), (some (.inl (20, 940, [])), [], (pU.set 0 (.inl (20, 940, [(2000, 20, 20)]))))], 3, 54, [])
/-- 162: RecastStage.lacks -/
def kc_162 : ck_K := (yX11_lacks, cX11_lacks, 1, (some .int), 11, [.inr (.inl 11)], pP, [(some (cF), [], (pU.set 7 (.inl (0, 6, []))))], 6, 135, [])
/-- 163: RecastStage.least -/
def kc_163 : ck_K := (yX11_least, cX11_least, 1, (some .int), 11, [.inr (.inl 11)], pP, [(some (cF), [], (pU.set 7 (.inl (0, 6, []))))], 11, 252, [])
/-- 164: RecastStage.now -/
def kc_164 : ck_K := (yX11_now, cX11_now, 2, (some .int), 11, [.inr (.inl 11), cF], pP, [(some (cF), [], pU)], 2, 34, [])
/-- 165: RecastStage.part -/
def kc_165 : ck_K := (yX11_part, cX11_part, 3, (some .int), 11, [.inr (.inl 11), cF, cF], pP, [(some (cF), [], pU)], 3, 56, [])
/-- 166: RecastStage.price -/
def kc_166 : ck_K := (yX11_price, cX11_price, 2, (some .int), 11, [.inr (.inl 11), cF], pP, [(some (cF), [], pU)], 2, 33, [])
/-- 167: RecastStage.said -/
def kc_167 : ck_K := (yX11_said, cX11_said, 5, (some .int), 11, [.inr (.inl 11), cF], pP, [(some (.inl (-1, 63, [])), [], pU)], 7, 150, [(43, ([(4, .inl (0, 8, [])), (3, cF), (2, cF), (0, .inr (.inl 11))], [], pU), (16, [(4, -2)]))])
/-- 168: RecastStage.scene -/
def kc_168 : ck_K := (yX11_scene, cX11_scene, 3, (some .int), 11, [.inr (.inl 11), cF, cF], pP, [(some (cF), [], pU)], 1, 12, [])
/-- 169: RecastStage.sentence -/
def kc_169 : ck_K := (yX11_sentence, cX11_sentence, 1, (some .int), 11, [.inr (.inl 11)], pP, [(some (.inl (-941, 20, [])), [], ((((pU.set 0 (.inl (0, 0, []))).set 1 (.inl (0, 940, []))).set 9 (.inl (0, 20, []))).set 10 (.inl (0, 40, []))))], 31, 734, [])
/-- 170: RecastStage.sure -/
def kc_170 : ck_K := (yX11_sure, cX11_sure, 1, (some .int), 11, [.inr (.inl 11)], pP, [(some (cF), [], pU)], 5, 100, [])
/-- 171: RecastStage.surely -/
def kc_171 : ck_K := (yX11_surely, cX11_surely, 1, (some .int), 11, [.inr (.inl 11)], pP, [(some (cF), [], (pU.set 7 (.inl (0, 6, []))))], 10, 225, [])
/-- 172: RecastStage.suspects -/
def kc_172 : ck_K := (yX11_suspects, cX11_suspects, 2, (some .int), 11, [.inr (.inl 11), cF], pP, [(some (.inl (-1, 63, [])), [], pU)], 3, 56, [])
/-- 173: RecastStage.tells -/
def kc_173 : ck_K := (yX11_tells, cX11_tells, 4, (some .int), 11, [.inr (.inl 11), cF], pP, [(some (.inl (-2147483648, 5, [])), [], pU)], 4, 77, [(45, ([(3, cF), (2, cF), (0, .inr (.inl 11))], [], pU), (4294967294, [(3, -2)]))])
/-- 174: RecastStage.wants -/
def kc_174 : ck_K := (yX11_wants, cX11_wants, 2, (some .int), 11, [.inr (.inl 11), cF], pP, [(some (cF), [], pU)], 2, 33, [])
/-- 175: RecastStage.whispers -/
def kc_175 : ck_K := (yX11_whispers, cX11_whispers, 1, (some .int), 11, [.inr (.inl 11)], pP, [(some (cF), [], (pU.set 7 (.inl (0, 6, []))))], 11, 252, [])
/-- 176: RecastStage.why -/
def kc_176 : ck_K := (yX11_why, cX11_why, 3, (some .int), 11, [.inr (.inl 11), cF, cF], pP, [(some (.inl (-1, 10, [])), [], pU)], 5, 106, [])
/-- 177: RecastStageModel.factsOf -/
def kc_177 : ck_K := (yX12_factsOf, cX12_factsOf, 4, (some .int), 12, [.inr (.inl 12), cF], pPM, [(some (cF), [], pUM)], 1, 12, [(4, ([(3, .inl (0, 12, [])), (2, cF), (0, .inr (.inl 12)), (1, .inl (-2147483648, 2147483647, [(2, 0, 0)]))], [], pUM), (24, [(3, -2)]))])
/-- 178: RecastStageModel.isIn -/
def kc_178 : ck_K := (yX12_isIn, cX12_isIn, 3, (some .boolean), 12, [cF, .inl (0, 0, []), .inl (-2, 1, [])], pPM, [(some (.inl (0, 0, [])), [], pUM), (some (.inl (1, 1, [])), [(0, 0, 1), (2, 0, 1)], pUM)], 1, 12, [])
/-- 179: RecastStageModel.isIn -/
def kc_179 : ck_K := (yX12_isIn, cX12_isIn, 3, (some .boolean), 12, [cF, .inl (0, 0, []), .inl (-2, 2, [])], pPM, [(some (.inl (0, 0, [])), [], pUM), (some (.inl (1, 1, [])), [(0, 0, 2), (2, 0, 2)], pUM)], 1, 12, [])
/-- 180: RecastStageModel.isIn -/
def kc_180 : ck_K := (yX12_isIn, cX12_isIn, 3, (some .boolean), 12, [cF, .inl (0, 0, []), .inl (-2, 3, [])], pPM, [(some (.inl (0, 0, [])), [], pUM), (some (.inl (1, 1, [])), [(0, 0, 3), (2, 0, 3)], pUM)], 1, 12, [])
/-- 181: RecastStageModel.isIn -/
def kc_181 : ck_K := (yX12_isIn, cX12_isIn, 3, (some .boolean), 12, [cF, .inl (0, 0, []), .inl (-2, 5, [])], pPM, [(some (.inl (0, 0, [])), [], pUM), (some (.inl (1, 1, [])), [(0, 0, 5), (2, 0, 5)], pUM)], 1, 12, [])
/-- 182: RecastStageModel.isIn -/
def kc_182 : ck_K := (yX12_isIn, cX12_isIn, 3, (some .boolean), 12, [cF, .inl (0, 0, []), .inl (-2, 7, [])], pPM, [(some (.inl (0, 0, [])), [], pUM), (some (.inl (1, 1, [])), [(0, 0, 7), (2, 0, 7)], pUM)], 1, 12, [])
/-- 183: RecastStageModel.isIn -/
def kc_183 : ck_K := (yX12_isIn, cX12_isIn, 3, (some .boolean), 12, [cF, .inl (0, 0, []), .inl (-2, 11, [])], pPM, [(some (.inl (0, 0, [])), [], pUM), (some (.inl (1, 1, [])), [(0, 0, 11), (2, 0, 11)], pUM)], 1, 12, [])
/-- 184: RecastStageModel.isIn -/
def kc_184 : ck_K := (yX12_isIn, cX12_isIn, 3, (some .boolean), 12, [cF, .inl (1, 1, []), .inl (40, 40, [])], pPM, [(some (.inl (0, 0, [])), [], pUM), (some (.inl (1, 1, [])), [(0, 1, 40)], pUM)], 1, 12, [])
/-- 185: RecastStageModel.isIn -/
def kc_185 : ck_K := (yX12_isIn, cX12_isIn, 3, (some .boolean), 12, [cF, cF, cF], pPM, [(some (.inl (0, 0, [])), [], pUM), (some (.inl (1, 1, [])), [], pUM)], 1, 12, [])
/-- 186: RecastStageModel.partsOf -/
def kc_186 : ck_K := (yX12_partsOf, cX12_partsOf, 4, (some .int), 12, [.inr (.inl 12), cF], pPM, [(some (cF), [], pUM)], 1, 12, [(4, ([(3, .inl (0, 12, [])), (2, cF), (0, .inr (.inl 12)), (1, .inl (-2147483648, 2147483647, [(2, 0, 0)]))], [], pUM), (24, [(3, -2)]))])
/-- 187: RecastStageModel.act -/
def kc_187 : ck_K := (yX12_act, cX12_act, 5, (some .int), 12, [.inr (.inl 12), cF, cF], pPM, [(some (cF), [], pUM)], 2, 35, [(37, ([(4, .inl (0, 12, [])), (3, cF), (0, .inr (.inl 12)), (1, .inl (0, 5, [(2, 0, 0)])), (2, .inl (0, 2, [(4, 0, 0)]))], [], (pUM.set 17 (.inl (1, 6, [(2034, 0, 0)])))), (24, [(4, -2)]))])
/-- 188: RecastStageModel.bitOf -/
def kc_188 : ck_K := (yX12_bitOf, cX12_bitOf, 2, (some .boolean), 12, [cF, cF], pPM, [(some (.inl (0, 0, [])), [], pUM), (some (.inl (1, 1, [])), [], pUM)], 1, 12, [])
/-- 189: RecastStageModel.areTogether -/
def kc_189 : ck_K := (yX12_areTogether, cX12_areTogether, 4, (some .boolean), 12, [.inr (.inl 12), cF, cF], pPM, [(some (.inl (0, 0, [])), [], pUM), (some (.inl (1, 1, [])), [], pUM)], 2, 33, [(2, ([(3, .inl (0, 12, [])), (0, .inr (.inl 12)), (1, .inl (-2147483648, 2147483647, [(2, 0, 0)])), (2, .inl (-2147483648, 2147483647, [(4, 0, 0)]))], [], pUM), (24, [(3, -2)]))])
/-- 190: RecastStageModel.back (by hand) -/
def kc_190 : ck_K := (yX12_back, cX12_back, 2, none, 12, [.inr (.inl 12)], pPM, [(none, [], (pU.set 16 (.inl (0, 6, [(2036, 0, 0)]))))], 1, 12, [])
/-- 191: RecastStageModel.bad -/
def kc_191 : ck_K := (yX12_bad, cX12_bad, 2, (some .boolean), 12, [.inr (.inl 12), .inl (1, 4, [])], pPM, [(some (.inl (0, 0, [])), [], pUM)], 1, 12, [])
/-- 192: RecastStageModel.isDigit -/
def kc_192 : ck_K := (yX12_isDigit, cX12_isDigit, 1, (some .boolean), 12, [cF], pPM, [(some (.inl (0, 0, [])), [], pUM), (some (.inl (1, 1, [])), [(0, 48, 57)], pUM)], 1, 12, [])
/-- 193: RecastStageModel.isSmall -/
def kc_193 : ck_K := (yX12_isSmall, cX12_isSmall, 1, (some .boolean), 12, [cF], pPM, [(some (.inl (0, 0, [])), [], pUM), (some (.inl (1, 1, [])), [(0, 97, 122)], pUM)], 1, 12, [])
/-- 194: RecastStageModel.peek -/
def kc_194 : ck_K := (yX12_peek, cX12_peek, 1, (some .int), 12, [.inr (.inl 12)], pPM, [(some (.inl (-1, -1, [])), [], pUM), (some (.inl (0, 255, [])), [], ((pUM.set 12 (.inl (1, 940, [(2024, 0, 0)]))).set 13 (.inl (0, 939, [(2026, 0, 0)]))))], 1, 12, [])
/-- 195: RecastStageModel.go -/
def kc_195 : ck_K := (yX12_go, cX12_go, 4, none, 12, [.inr (.inl 12)], pPM, [(none, [], ((pUM.set 13 (.inl (0, 940, [(2026, 0, 940)]))).set 14 (.inl (0, 0, [])))), (none, [], (((pUM.set 12 (.inl (1, 940, [(2024, 0, 0)]))).set 13 (.inl (0, 940, [(2026, 0, 940)]))).set 14 (.inl (4, 4, [])))), (none, [], (((pUM.set 12 (.inl (1, 940, [(2024, 0, 0)]))).set 13 (.inl (1, 940, [(2026, 1, 940)]))).set 14 (.inl (3, 3, [])))), (none, [], (((pUM.set 12 (.inl (1, 940, [(2024, 0, 0)]))).set 13 (.inl (0, 940, [(2026, 0, 940)]))).set 14 (.inl (1, 2, []))))], 2, 32, [(0, ([(0, .inr (.inl 12))], [], ((pUM.set 12 (.inl (1, 940, [(2024, 0, 0)]))).set 13 (.inl (1, 940, [(2026, 1, 940)])))), (6594, [(1013, -2)])), (80, ([(0, .inr (.inl 12))], [], (pUM.set 13 (.inl (0, 940, [(2026, 0, 940)])))), (4713, [])), (95, ([(1, .inl (0, 255, [])), (0, .inr (.inl 12))], [], ((pUM.set 12 (.inl (1, 940, [(2024, 0, 0)]))).set 13 (.inl (0, 939, [(2026, 0, 939)])))), (4712, [])), (109, ([(1, .inl (0, 255, [])), (0, .inr (.inl 12))], [], ((pUM.set 12 (.inl (1, 940, [(2024, 0, 0)]))).set 13 (.inl (0, 939, [(2026, 0, 939)])))), (0, [])), (164, ([(1, .inl (48, 122, [])), (0, .inr (.inl 12))], [], ((pUM.set 12 (.inl (1, 940, [(2024, 0, 0)]))).set 13 (.inl (0, 939, [(2026, 0, 939)])))), (4711, [])), (181, ([(3, .inl (0, 1, [])), (2, .inl (0, 1, [])), (0, .inr (.inl 12))], [], ((pUM.set 12 (.inl (1, 940, [(2024, 0, 0)]))).set 13 (.inl (0, 940, [(2026, 0, 940)])))), (4705, [(1013, -5)])), (222, ([(3, .inl (0, 1, [])), (2, .inl (0, 1, [])), (0, .inr (.inl 12))], [], ((pUM.set 12 (.inl (1, 940, [(2024, 0, 0)]))).set 13 (.inl (0, 939, [(2026, 0, 939)])))), (4704, [(1013, -5)])), (248, ([(3, .inl (0, 1, [])), (2, .inl (0, 1, [])), (0, .inr (.inl 12))], [], ((pUM.set 12 (.inl (1, 940, [(2024, 0, 0)]))).set 13 (.inl (0, 939, [(2026, 0, 939)])))), (4703, [(1013, -5)])), (275, ([(3, .inl (0, 1, [])), (2, .inl (0, 1, [])), (0, .inr (.inl 12))], [], ((pUM.set 12 (.inl (1, 940, [(2024, 0, 0)]))).set 13 (.inl (0, 939, [(2026, 0, 939)])))), (4702, [(1013, -5)])), (298, ([(3, .inl (0, 1, [])), (2, .inl (0, 1, [])), (0, .inr (.inl 12))], [], ((pUM.set 12 (.inl (1, 940, [(2024, 0, 0)]))).set 13 (.inl (0, 940, [(2026, 0, 940)])))), (1, []))])
/-- 196: RecastStageModel.isSign -/
def kc_196 : ck_K := (yX12_isSign, cX12_isSign, 2, (some .boolean), 12, [.inr (.inl 12), cF], pPM, [(some (.inl (0, 0, [])), [], pUM), (some (.inl (1, 1, [])), [], (pUM.set 14 (.inl (3, 3, [(2028, 0, 0)]))))], 1, 12, [])
/-- 197: RecastStageModel.isWord -/
def kc_197 : ck_K := (yX12_isWord, cX12_isWord, 3, (some .boolean), 12, [.inr (.inl 12), .inr (.inr ())], pPM, [(some (.inl (0, 0, [])), [], pUM), (some (.inl (1, 1, [])), [], (pUM.set 14 (.inl (1, 1, [(2028, 0, 0)]))))], 1, 12, [])
/-- 198: RecastStageModel.bits (by hand) -/
def kc_198 : ck_K := (yX12_bits, cX12_bits, 3, (some .int), 12, [cF], pPM, [(some (cF), [], pU)], 1, 12, [])
/-- 199: RecastStageModel.lacking -/
def kc_199 : ck_K := (yX12_lacking, cX12_lacking, 3, (some .int), 12, [.inr (.inl 12), .inl (-1, 8, []), .inl (0, 5, [])], pPM, [(some (cF), [], pUM)], 1, 12, [])
/-- 200: RecastStageModel.off -/
def kc_200 : ck_K := (yX12_off, cX12_off, 2, (some .int), 12, [cF, cF], pPM, [(some (cF), [], pUM)], 1, 12, [])
/-- 201: RecastStageModel.counts -/
def kc_201 : ck_K := (yX12_counts, cX12_counts, 10, none, 12, [.inr (.inl 12), .inl (0, 6, []), cF], pPM, [(none, [], pUM)], 2, 34, [(14, ([(7, .inl (0, 6, [])), (6, cF), (5, cF), (4, cF), (3, cF), (0, .inr (.inl 12)), (1, .inl (0, 6, [(2, 0, 0)])), (2, .inl (-2147483648, 2147483647, [(4, 0, 0)]))], [], pUM), (63, [(7, -4)])), (73, ([(3, cF), (9, .inl (-1, 7, [])), (8, .inl (-1, 8, [])), (7, .inl (0, 5, [])), (6, cF), (5, cF), (4, cF), (0, .inr (.inl 12)), (1, .inl (1, 6, [(2, 0, 0)])), (2, .inl (-2147483648, 2147483647, [(4, 0, 0)]))], [], pUM), (62, [(7, -4)])), (110, ([(4, cF), (3, cF), (8, .inl (-1, 8, [])), (7, .inl (0, 5, [])), (6, cF), (5, cF), (0, .inr (.inl 12)), (1, .inl (1, 6, [(2, 0, 0)])), (2, .inl (-2147483648, 2147483647, [(4, 0, 0)]))], [], pUM), (61, [(7, -4)])), (146, ([(6, cF), (5, cF), (4, cF), (3, cF), (0, .inr (.inl 12)), (1, .inl (0, 6, [(2, 0, 0)])), (2, .inl (-2147483648, 2147483647, [(4, 0, 0)]))], [], pUM), (36, [])), (175, ([(5, cF), (4, cF), (3, cF), (0, .inr (.inl 12)), (1, .inl (0, 6, [(2, 0, 0)])), (2, .inl (-2147483648, 2147483647, [(4, 0, 0)]))], [], pUM), (35, [])), (204, ([(5, cF), (3, cF), (0, .inr (.inl 12)), (1, .inl (0, 6, [(2, 0, 0)])), (2, .inl (-2147483648, 2147483647, [(4, 0, 0)]))], [], pUM), (34, [])), (227, ([(5, cF), (3, cF), (0, .inr (.inl 12)), (1, .inl (0, 6, [(2, 0, 0)])), (2, .inl (-2147483648, 2147483647, [(4, 0, 0)]))], [], pUM), (33, [])), (247, ([(3, cF), (0, .inr (.inl 12)), (1, .inl (0, 6, [(2, 0, 0)]))], [], pUM), (32, [])), (262, ([(3, cF), (0, .inr (.inl 12)), (1, .inl (0, 6, [(2, 0, 0)]))], [], pUM), (31, [])), (270, ([(7, .inl (0, 6, [])), (0, .inr (.inl 12)), (1, .inl (0, 6, [(2, 0, 0)]))], [], pUM), (28, [(7, -2)])), (294, ([(7, .inl (0, 6, [])), (0, .inr (.inl 12)), (1, .inl (0, 6, [(2, 0, 0)]))], [], pUM), (13, [(7, -2)])), (325, ([(0, .inr (.inl 12))], [], pUM), (0, []))])
/-- 202: RecastStageModel.isOver -/
def kc_202 : ck_K := (yX12_isOver, cX12_isOver, 1, (some .boolean), 12, [.inr (.inl 12)], pPM, [(some (.inl (0, 0, [])), [], (pU.set 16 (.inl (0, 5, [(2032, 0, 0), (2034, -6, -1)])))), (some (.inl (1, 1, [])), [], (pU.set 16 (.inl (0, 6, [(2032, 0, 0), (2034, 0, 0)]))))], 1, 12, [])
/-- 203: RecastStageModel.whyAlone -/
def kc_203 : ck_K := (yX12_whyAlone, cX12_whyAlone, 3, (some .int), 12, [.inr (.inl 12), .inl (-1, 8, []), .inl (0, 5, [])], pPM, [(some (.inl (0, 5, [])), [], pUM)], 2, 35, [])
/-- 204: RecastStageModel.canAlone -/
def kc_204 : ck_K := (yX12_canAlone, cX12_canAlone, 3, (some .boolean), 12, [.inr (.inl 12), .inl (-1, 8, []), .inl (0, 5, [])], pPM, [(some (.inl (0, 0, [])), [], pUM), (some (.inl (1, 1, [])), [], pUM)], 3, 57, [])
/-- 205: RecastStageModel.fits -/
def kc_205 : ck_K := (yX12_fits, cX12_fits, 5, (some .boolean), 12, [.inr (.inl 12), .inl (0, 5, []), .inl (0, 1, [])], pPM, [(some (.inl (0, 0, [])), [], pUM), (some (.inl (1, 1, [])), [], pUM)], 4, 79, [(62, ([(4, .inl (0, 5, [])), (3, .inl (-1, 8, [])), (0, .inr (.inl 12)), (1, .inl (0, 5, [(2, 0, 0)]))], [], pUM), (10, [(4, -2)]))])
/-- 206: RecastStageModel.bestAs -/
def kc_206 : ck_K := (yX12_bestAs, cX12_bestAs, 2, (some .int), 12, [.inr (.inl 12), cF], pPM, [(some (cF), [], pUM)], 2, 34, [])
/-- 207: RecastStageModel.find -/
def kc_207 : ck_K := (yX12_find, cX12_find, 4, (some .int), 12, [.inr (.inl 12), .inl (0, 32, []), .inl (0, 6, [])], pPM, [(some (.inl (-1, 5, [])), [], pUM)], 1, 12, [(2, ([(3, .inl (0, 6, [])), (0, .inr (.inl 12)), (1, .inl (0, 32, [(2, 0, 0)])), (2, .inl (0, 6, [(4, 0, 0)]))], [], pUM), (12, [(3, -2)]))])
/-- 208: RecastStageModel.find -/
def kc_208 : ck_K := (yX12_find, cX12_find, 4, (some .int), 12, [.inr (.inl 12), .inl (0, 32, []), .inl (0, 8, [])], pPM, [(some (.inl (-1, 7, [])), [], pUM)], 1, 12, [(2, ([(3, .inl (0, 8, [])), (0, .inr (.inl 12)), (1, .inl (0, 32, [(2, 0, 0)])), (2, .inl (0, 8, [(4, 0, 0)]))], [], pUM), (16, [(3, -2)]))])
/-- 209: RecastStageModel.isName -/
def kc_209 : ck_K := (yX12_isName, cX12_isName, 3, (some .boolean), 12, [.inr (.inl 12)], pPM, [(some (.inl (0, 0, [])), [], pUM), (some (.inl (1, 1, [])), [], (pUM.set 14 (.inl (1, 1, [(2028, 0, 0)]))))], 1, 12, [(16, ([(2, .inl (0, 27, [])), (1, .inl (0, 0, [])), (0, .inr (.inl 12))], [], pUM), (54, [(2, -2)])), (16, ([(2, .inl (0, 27, [])), (1, .inl (1, 1, [])), (0, .inr (.inl 12))], [], (pUM.set 14 (.inl (1, 1, [(2028, 0, 0)])))), (111, [(2, -2)]))])
/-- 210: RecastStageModel.looksAt -/
def kc_210 : ck_K := (yX12_looksAt, cX12_looksAt, 3, (some .boolean), 12, [.inr (.inl 12), .inl (0, 32, []), .inl (0, 6, [])], pPM, [(some (.inl (0, 0, [])), [], (pUM.set 24 (cF))), (some (.inl (1, 1, [])), [], ((pUM.set 14 (.inl (1, 1, [(2028, 0, 0)]))).set 24 (.inl (0, 5, []))))], 2, 35, [])
/-- 211: RecastStageModel.looksAt -/
def kc_211 : ck_K := (yX12_looksAt, cX12_looksAt, 3, (some .boolean), 12, [.inr (.inl 12), .inl (0, 32, []), .inl (0, 8, [])], pPM, [(some (.inl (0, 0, [])), [], (pUM.set 24 (cF))), (some (.inl (1, 1, [])), [], ((pUM.set 14 (.inl (1, 1, [(2028, 0, 0)]))).set 24 (.inl (0, 7, []))))], 2, 35, [])
/-- 212: RecastStageModel.castAs -/
def kc_212 : ck_K := (yX12_castAs, cX12_castAs, 3, (some .int), 12, [.inr (.inl 12), cF], pPM, [(some (.inl (-1, 7, [])), [], pUM)], 1, 12, [(2, ([(2, .inl (0, 8, [])), (0, .inr (.inl 12)), (1, .inl (-2147483648, 2147483647, [(2, 0, 0)]))], [], pUM), (16, [(2, -2)]))])
/-- 213: RecastStageModel.canRise -/
def kc_213 : ck_K := (yX12_canRise, cX12_canRise, 3, (some .boolean), 12, [.inr (.inl 12)], pPM, [(some (.inl (0, 0, [])), [], pUM), (some (.inl (1, 1, [])), [], (pU.set 16 (.inl (0, 5, [(2032, 0, 0), (2034, -6, -1)]))))], 2, 35, [(15, ([(2, .inl (0, 6, [])), (1, .inl (0, 0, [])), (0, .inr (.inl 12))], [], pUM), (0, [])), (15, ([(2, .inl (0, 6, [])), (1, .inl (1, 1, [])), (0, .inr (.inl 12))], [], (pU.set 16 (.inl (0, 5, [(2032, 0, 0), (2034, -6, -1)])))), (13, [(2, -2)]))])
/-- 214: RecastStageModel.isMan -/
def kc_214 : ck_K := (yX12_isMan, cX12_isMan, 2, (some .boolean), 12, [.inr (.inl 12), cF], pPM, [(some (.inl (0, 0, [])), [], pUM), (some (.inl (1, 1, [])), [(1, 0, 7)], pUM)], 2, 34, [])
/-- 215: RecastStageModel.canWhisper -/
def kc_215 : ck_K := (yX12_canWhisper, cX12_canWhisper, 3, (some .boolean), 12, [.inr (.inl 12), cF, cF], pPM, [(some (.inl (0, 0, [])), [], pUM), (some (.inl (1, 1, [])), [(1, 0, 7), (2, 0, 5)], (pU.set 16 (.inl (0, 5, [(2032, 0, 0), (2034, -6, -1)]))))], 3, 55, [])
/-- 216: RecastStageModel.drops -/
def kc_216 : ck_K := (yX12_drops, cX12_drops, 2, none, 12, [.inr (.inl 12)], pPM, [(none, [], pUM)], 1, 12, [(2, ([(1, .inl (0, 8, [])), (0, .inr (.inl 12))], [], pUM), (16, [(1, -2)]))])
/-- 217: RecastStageModel.castNow -/
def kc_217 : ck_K := (yX12_castNow, cX12_castNow, 3, (some .int), 12, [.inr (.inl 12)], pPM, [(some (cF), [], pUM)], 1, 12, [(4, ([(2, .inl (0, 8, [])), (1, cF), (0, .inr (.inl 12))], [], pUM), (16, [(2, -2)]))])
/-- 218: RecastStageModel.clapsFor -/
def kc_218 : ck_K := (yX12_clapsFor, cX12_clapsFor, 4, (some .int), 12, [.inr (.inl 12), .inl (0, 7, [])], pPM, [(some (.inl (-1, 7, [])), [], pUM)], 2, 34, [(4, ([(3, .inl (0, 6, [])), (2, .inl (-1, 5, [])), (0, .inr (.inl 12)), (1, .inl (0, 7, [(2, 0, 0)]))], [], pUM), (12, [(3, -2)]))])
/-- 219: RecastStageModel.plays -/
def kc_219 : ck_K := (yX12_plays, cX12_plays, 5, none, 12, [.inr (.inl 12), .inl (0, 7, []), .inl (0, 5, [])], pPM, [(none, [], pUM)], 2, 33, [(108, ([(4, .inl (0, 12, [])), (0, .inr (.inl 12)), (1, .inl (0, 7, [(2, 0, 0)])), (2, .inl (0, 5, [(4, 0, 0)]))], [], pUM), (24, [(4, -2)]))])
/-- 220: RecastStageModel.rises (by hand) -/
def kc_220 : ck_K := (yX12_rises, cX12_rises, 3, none, 12, [.inr (.inl 12)], (pP.set 16 (.inl (0, 5, [(2034, -6, -1)]))), [(none, [], (pU.set 16 (.inl (0, 6, [(2032, 1, 1)]))))], 3, 57, [])
/-- 221: RecastStageModel.whispers -/
def kc_221 : ck_K := (yX12_whispers, cX12_whispers, 3, none, 12, [.inr (.inl 12), .inl (0, 7, []), cF], pPM, [(none, [], pUM)], 1, 12, [])
/-- 222: RecastStageModel.whyOf -/
def kc_222 : ck_K := (yX12_whyOf, cX12_whyOf, 5, (some .int), 12, [.inr (.inl 12), .inl (0, 7, []), .inl (0, 5, [])], pPM, [(some (.inl (0, 10, [])), [], pUM)], 3, 57, [(55, ([(4, .inl (0, 8, [])), (0, .inr (.inl 12)), (1, .inl (0, 7, [(2, 0, 0)])), (2, .inl (0, 5, [(4, 0, 0)]))], [], pUM), (16, [(4, -2)]))])
/-- 223: RecastStageModel.sign -/
def kc_223 : ck_K := (yX12_sign, cX12_sign, 2, (some .boolean), 12, [.inr (.inl 12), cF], pPM, [(some (.inl (0, 0, [])), [], pUM), (some (.inl (1, 1, [])), [], ((pUM.set 13 (.inl (0, 940, [(2026, 0, 940)]))).set 14 (.inl (0, 4, []))))], 3, 55, [])
/-- 224: RecastStageModel.taken -/
def kc_224 : ck_K := (yX12_taken, cX12_taken, 2, none, 12, [.inr (.inl 12), .inl (0, 900, [])], pPM, [(none, [], (((pUM.set 11 (.inl (0, 0, []))).set 12 (.inl (0, 940, [(2022, 0, 0)]))).set 13 (.inl (0, 0, []))))], 1, 12, [])
/-- 225: RecastStageModel.tries (by hand) -/
def kc_225 : ck_K := (yX12_tries, cX12_tries, 2, none, 12, [.inr (.inl 12)], pPM, [(none, [], (pU.set 18 (.inl (0, 6, [(2032, 0, 0)]))))], 1, 12, [])
/-- 226: RecastStageModel.booked -/
def kc_226 : ck_K := (yX12_booked, cX12_booked, 2, (some .int), 12, [.inr (.inl 12), cF], pPM, [(some (cF), [], pUM)], 2, 34, [])
/-- 227: RecastStageModel.isPart -/
def kc_227 : ck_K := (yX12_isPart, cX12_isPart, 2, (some .boolean), 12, [.inr (.inl 12), cF], pPM, [(some (.inl (0, 0, [])), [], pUM), (some (.inl (1, 1, [])), [(1, 0, 5)], pUM)], 2, 34, [])
/-- 228: RecastStageModel.count -/
def kc_228 : ck_K := (yX12_count, cX12_count, 2, (some .int), 12, [.inr (.inl 12), cF], pPM, [(some (cF), [], pUM)], 2, 34, [])
/-- 229: RecastStageModel.draw -/
def kc_229 : ck_K := (yX12_draw, cX12_draw, 2, (some .int), 12, [.inr (.inl 12), .inl (6, 6, [])], pPM, [(some (cF), [], pUM)], 1, 12, [])
/-- 230: RecastStageModel.end -/
def kc_230 : ck_K := (yX12_end, cX12_end, 2, (some .boolean), 12, [.inr (.inl 12), cF], pPM, [(some (.inl (0, 0, [])), [], pUM), (some (.inl (1, 1, [])), [(1, 0, 940)], (pUM.set 11 (.inl (0, 940, []))))], 1, 12, [])
/-- 231: RecastStageModel.fault -/
def kc_231 : ck_K := (yX12_fault, cX12_fault, 1, (some .int), 12, [.inr (.inl 12)], pPM, [(some (.inl (0, 4, [])), [], pUM)], 1, 12, [])
/-- 232: RecastStageModel.valueOf -/
def kc_232 : ck_K := (yX12_valueOf, cX12_valueOf, 3, (some .int), 12, [.inr (.inl 12), .inl (0, 7, []), cF], pPM, [(some (cF), [], pUM)], 1, 12, [])
/-- 233: RecastStageModel.favourite -/
def kc_233 : ck_K := (yX12_favourite, cX12_favourite, 4, (some .int), 12, [.inr (.inl 12), cF], pPM, [(some (.inl (-1, 7, [])), [], pUM)], 2, 34, [(20, ([(3, .inl (0, 8, [])), (2, .inl (-1, 7, [])), (0, .inr (.inl 12)), (1, .inl (0, 2, [(2, 0, 0)]))], [], pUM), (16, [(3, -2)]))])
/-- 234: RecastStageModel.four -/
def kc_234 : ck_K := (yX12_four, cX12_four, 3, none, 12, [.inr (.inl 12), cF], (pPM.set 11 (.inl (0, 936, []))), [(none, [], (pUM.set 11 (.inl (4, 940, [(2022, 4, 4)]))))], 1, 12, [])
/-- 235: RecastStageModel.feed -/
def kc_235 : ck_K := (yX12_feed, cX12_feed, 6, (some .int), 12, [.inr (.inl 12), cF, cF, cF, cF, cF], pPM, [(some (.inl (-1, -1, [])), [], (pUM.set 11 (.inl (921, 940, [(2022, 0, 0)])))), (some (.inl (20, 940, [])), [], (pUM.set 11 (.inl (20, 940, [(2022, 20, 20)]))))], 2, 34, [])
/-- 236: RecastStageModel.fresh -/
def kc_236 : ck_K := (yX12_fresh, cX12_fresh, 2, (some .boolean), 12, [.inr (.inl 12), .inl (20, 39, [])], pPM, [(some (.inl (0, 0, [])), [], (pUM.set 14 (.inl (1, 1, [(2028, 0, 0)])))), (some (.inl (0, 0, [])), [], pUM), (some (.inl (1, 1, [])), [], (((pUM.set 12 (.inl (1, 940, [(2024, 0, 0)]))).set 13 (.inl (0, 940, [(2026, 0, 940)]))).set 14 (.inl (4, 4, [])))), (some (.inl (1, 1, [])), [], ((pUM.set 13 (.inl (0, 940, [(2026, 0, 940)]))).set 14 (.inl (0, 0, [])))), (some (.inl (1, 1, [])), [], (((pUM.set 12 (.inl (1, 940, [(2024, 0, 0)]))).set 13 (.inl (1, 940, [(2026, 1, 940)]))).set 14 (.inl (3, 3, [])))), (some (.inl (1, 1, [])), [], (((pUM.set 12 (.inl (1, 940, [(2024, 0, 0)]))).set 13 (.inl (0, 940, [(2026, 0, 940)]))).set 14 (.inl (1, 2, []))))], 3, 55, [])
/-- 237: RecastStageModel.suspectsBy -/
def kc_237 : ck_K := (yX12_suspectsBy, cX12_suspectsBy, 4, (some .int), 12, [.inr (.inl 12), cF], pPM, [(some (.inl (0, 63, [])), [], pUM)], 2, 33, [(13, ([(3, .inl (0, 6, [])), (2, .inl (0, 63, [])), (0, .inr (.inl 12)), (1, .inl (-2147483648, 2147483647, [(2, 0, 0)]))], [], pUM), (12, [(3, -2)]))])
/-- 238: RecastStageModel.isSure -/
def kc_238 : ck_K := (yX12_isSure, cX12_isSure, 2, (some .boolean), 12, [.inr (.inl 12), cF], pPM, [(some (.inl (0, 0, [])), [], pUM), (some (.inl (1, 1, [])), [], pUM)], 3, 56, [])
/-- 239: RecastStageModel.isLeaf -/
def kc_239 : ck_K := (yX12_isLeaf, cX12_isLeaf, 6, (some .boolean), 12, [.inr (.inl 12), .inl (0, 7, []), cF, cF, cF], pPM, [(some (.inl (0, 0, [])), [], pUM), (some (.inl (1, 1, [])), [], pUM)], 4, 77, [])
/-- 240: RecastStageModel.lacks -/
def kc_240 : ck_K := (yX12_lacks, cX12_lacks, 7, (some .int), 12, [.inr (.inl 12)], pPM, [(some (.inl (0, 63, [])), [], pUM)], 4, 79, [(31, ([(3, .inl (1, 64, [])), (2, cF), (1, .inl (0, 63, [])), (0, .inr (.inl 12))], [], (pU.set 16 (.inl (0, 5, [(2032, 0, 0), (2034, -6, -1)])))), (11113, [(3, -171)])), (69, ([(5, .inl (0, 8, [])), (4, cF), (3, .inl (1, 63, [])), (2, cF), (1, .inl (0, 63, [])), (0, .inr (.inl 12))], [], (pU.set 16 (.inl (0, 5, [(2032, 0, 0), (2034, -6, -1)])))), (11095, [(3, -171), (5, -17)])), (83, ([(6, .inl (0, 6, [])), (5, .inl (0, 7, [])), (4, cF), (3, .inl (1, 63, [])), (2, cF), (1, .inl (0, 63, [])), (0, .inr (.inl 12))], [], (pU.set 16 (.inl (0, 5, [(2032, 0, 0), (2034, -6, -1)])))), (11092, [(3, -171), (5, -17), (6, -2)]))])
/-- 241: RecastStageModel.leafOf -/
def kc_241 : ck_K := (yX12_leafOf, cX12_leafOf, 1, (some .int), 12, [.inr (.inl 12)], pPM, [(some (.inl (-1, 7, [])), [], pUM)], 2, 34, [])
/-- 242: RecastStageModel.takes -/
def kc_242 : ck_K := (yX12_takes, cX12_takes, 3, (some .boolean), 12, [.inr (.inl 12), cF, cF], pPM, [(some (.inl (0, 0, [])), [], (pUM.set 14 (.inl (2, 2, [(2028, 0, 0)])))), (some (.inl (0, 0, [])), [], pUM), (some (.inl (1, 1, [])), [], ((((pUM.set 12 (.inl (1, 940, [(2024, 0, 0)]))).set 13 (.inl (0, 940, [(2026, 0, 940)]))).set 14 (.inl (4, 4, []))).set 24 (cF))), (some (.inl (1, 1, [])), [], (((pUM.set 13 (.inl (0, 940, [(2026, 0, 940)]))).set 14 (.inl (0, 0, []))).set 24 (cF))), (some (.inl (1, 1, [])), [], ((((pUM.set 12 (.inl (1, 940, [(2024, 0, 0)]))).set 13 (.inl (1, 940, [(2026, 1, 940)]))).set 14 (.inl (3, 3, []))).set 24 (cF))), (some (.inl (1, 1, [])), [], ((((pUM.set 12 (.inl (1, 940, [(2024, 0, 0)]))).set 13 (.inl (0, 940, [(2026, 0, 940)]))).set 14 (.inl (1, 2, []))).set 24 (cF)))], 3, 55, [])
/-- 243: RecastStageModel.takesName -/
def kc_243 : ck_K := (yX12_takesName, cX12_takesName, 3, (some .boolean), 12, [.inr (.inl 12), .inl (0, 32, []), .inl (0, 6, [])], pPM, [(some (.inl (0, 0, [])), [], (pUM.set 24 (cF))), (some (.inl (1, 1, [])), [], ((((pUM.set 12 (.inl (1, 940, [(2024, 0, 0)]))).set 13 (.inl (0, 940, [(2026, 0, 940)]))).set 14 (.inl (4, 4, []))).set 24 (.inl (0, 5, [])))), (some (.inl (1, 1, [])), [], (((pUM.set 13 (.inl (0, 940, [(2026, 0, 940)]))).set 14 (.inl (0, 0, []))).set 24 (.inl (0, 5, [])))), (some (.inl (1, 1, [])), [], ((((pUM.set 12 (.inl (1, 940, [(2024, 0, 0)]))).set 13 (.inl (1, 940, [(2026, 1, 940)]))).set 14 (.inl (3, 3, []))).set 24 (.inl (0, 5, [])))), (some (.inl (1, 1, [])), [], ((((pUM.set 12 (.inl (1, 940, [(2024, 0, 0)]))).set 13 (.inl (0, 940, [(2026, 0, 940)]))).set 14 (.inl (1, 2, []))).set 24 (.inl (0, 5, []))))], 3, 57, [])
/-- 244: RecastStageModel.takesName -/
def kc_244 : ck_K := (yX12_takesName, cX12_takesName, 3, (some .boolean), 12, [.inr (.inl 12), .inl (0, 32, []), .inl (0, 8, [])], pPM, [(some (.inl (0, 0, [])), [], (pUM.set 24 (cF))), (some (.inl (1, 1, [])), [], ((((pUM.set 12 (.inl (1, 940, [(2024, 0, 0)]))).set 13 (.inl (0, 940, [(2026, 0, 940)]))).set 14 (.inl (4, 4, []))).set 24 (.inl (0, 7, [])))), (some (.inl (1, 1, [])), [], (((pUM.set 13 (.inl (0, 940, [(2026, 0, 940)]))).set 14 (.inl (0, 0, []))).set 24 (.inl (0, 7, [])))), (some (.inl (1, 1, [])), [], ((((pUM.set 12 (.inl (1, 940, [(2024, 0, 0)]))).set 13 (.inl (1, 940, [(2026, 1, 940)]))).set 14 (.inl (3, 3, []))).set 24 (.inl (0, 7, [])))), (some (.inl (1, 1, [])), [], ((((pUM.set 12 (.inl (1, 940, [(2024, 0, 0)]))).set 13 (.inl (0, 940, [(2026, 0, 940)]))).set 14 (.inl (1, 2, []))).set 24 (.inl (0, 7, []))))], 3, 57, [])
/-- 245: RecastStageModel.throwsIf -/
def kc_245 : ck_K := (yX12_throwsIf, cX12_throwsIf, 2, (some .boolean), 12, [.inr (.inl 12), .inl (0, 1, [])], pPM, [(some (.inl (0, 0, [])), [(1, 0, 0)], pUM), (some (.inl (1, 1, [])), [(1, 1, 1)], pUM)], 1, 12, [])
/-- 246: RecastStageModel.man -/
def kc_246 : ck_K := (yX12_man, cX12_man, 3, (some .int), 12, [.inr (.inl 12), cF, cF], pPM, [(some (cF), [], pUM)], 3, 55, [])
/-- 247: RecastStageModel.now -/
def kc_247 : ck_K := (yX12_now, cX12_now, 2, (some .int), 12, [.inr (.inl 12), cF], pPM, [(some (cF), [], pUM)], 2, 34, [])
/-- 248: RecastStageModel.part -/
def kc_248 : ck_K := (yX12_part, cX12_part, 5, (some .int), 12, [.inr (.inl 12), cF, cF], pPM, [(some (cF), [], pUM)], 3, 55, [(20, ([(4, .inl (0, 6, [])), (3, cF), (0, .inr (.inl 12)), (1, .inl (0, 5, [(2, 0, 0)])), (2, .inl (-2147483648, 2147483647, [(4, 0, 0)]))], [], pUM), (12, [(4, -2)]))])
/-- 249: RecastStageModel.price -/
def kc_249 : ck_K := (yX12_price, cX12_price, 2, (some .int), 12, [.inr (.inl 12), cF], pPM, [(some (cF), [], pUM)], 2, 34, [])
/-- 250: RecastStageModel.wantOf -/
def kc_250 : ck_K := (yX12_wantOf, cX12_wantOf, 5, (some .int), 12, [.inr (.inl 12), .inl (0, 7, [])], pPM, [(some (.inl (-1, 5, [])), [], pUM)], 4, 79, [(4, ([(3, .inl (0, 6, [])), (2, .inl (-1, 5, [])), (0, .inr (.inl 12)), (1, .inl (0, 7, [(2, 0, 0)]))], [], pUM), (12, [(3, -2)]))])
/-- 251: RecastStageModel.prices (by hand) -/
def kc_251 : ck_K := (yX12_prices, cX12_prices, 4, (some .int), 12, [.inr (.inl 12)], pPM, [(some (cF), [], pU)], 5, 103, [])
/-- 252: RecastStageModel.scene -/
def kc_252 : ck_K := (yX12_scene, cX12_scene, 3, (some .int), 12, [.inr (.inl 12), cF, cF], pPM, [(some (cF), [], pUM)], 2, 34, [])
/-- 253: RecastStageModel.sure -/
def kc_253 : ck_K := (yX12_sure, cX12_sure, 3, (some .int), 12, [.inr (.inl 12)], pPM, [(some (cF), [], pUM)], 4, 77, [(9, ([(2, .inl (0, 8, [])), (1, cF), (0, .inr (.inl 12))], [], pUM), (16, [(2, -2)]))])
/-- 254: RecastStageModel.suspects -/
def kc_254 : ck_K := (yX12_suspects, cX12_suspects, 2, (some .int), 12, [.inr (.inl 12), cF], pPM, [(some (.inl (-1, 63, [])), [], pUM)], 3, 56, [])
/-- 255: RecastStageModel.tells -/
def kc_255 : ck_K := (yX12_tells, cX12_tells, 4, (some .int), 12, [.inr (.inl 12), cF], pPM, [(some (.inl (-2, 5, [])), [], pUM)], 4, 77, [(46, ([(3, .inl (0, 6, [(2032, 0, 6), (2034, -6, 0)])), (2, cF), (0, .inr (.inl 12))], [], pUM), (12, [(3, -2)]))])
/-- 256: RecastStageModel.wants -/
def kc_256 : ck_K := (yX12_wants, cX12_wants, 2, (some .int), 12, [.inr (.inl 12), cF], pPM, [(some (.inl (-1, 5, [])), [], pUM)], 2, 34, [])
/-- 257: RecastStageModel.why -/
def kc_257 : ck_K := (yX12_why, cX12_why, 3, (some .int), 12, [.inr (.inl 12), cF, cF], pPM, [(some (.inl (-1, 10, [])), [], pUM)], 4, 81, [])
/-- 258: java/util/Arrays.fill -/
def kc_258 : ck_K := (yJ7_fill_53178, cJ7_fill_53178, 4, none, 15, [.inr (.inl 26), .inl (-1, -1, [])], pP, [(none, [], pU)], 1, 12, [(5, ([(3, .inl (6, 6, [])), (2, .inl (0, 6, [])), (0, .inr (.inl 26)), (1, .inl (-1, -1, [(2, 0, 0)]))], [], pU), (12, [(2, -2)]))])
/-- 259: java/util/Arrays.fill -/
def kc_259 : ck_K := (yJ7_fill_53178, cJ7_fill_53178, 4, none, 15, [.inr (.inl 20), cF], pP, [(none, [], pU)], 1, 12, [(5, ([(3, .inl (6, 6, [])), (2, .inl (0, 6, [])), (0, .inr (.inl 20)), (1, .inl (-2147483648, 2147483647, [(2, 0, 0)]))], [], pU), (12, [(2, -2)]))])
/-- 260: java/util/Arrays.fill -/
def kc_260 : ck_K := (yJ7_fill_53178, cJ7_fill_53178, 4, none, 15, [.inr (.inl 21), cF], pP, [(none, [], pU)], 1, 12, [(5, ([(3, .inl (8, 8, [])), (2, .inl (0, 8, [])), (0, .inr (.inl 21)), (1, .inl (-2147483648, 2147483647, [(2, 0, 0)]))], [], pU), (16, [(2, -2)]))])
/-- 261: java/util/Arrays.fill -/
def kc_261 : ck_K := (yJ7_fill_53178, cJ7_fill_53178, 4, none, 15, [.inr (.inl 22), cF], pP, [(none, [], pU)], 1, 12, [(5, ([(3, .inl (48, 48, [])), (2, .inl (0, 48, [])), (0, .inr (.inl 22)), (1, .inl (-2147483648, 2147483647, [(2, 0, 0)]))], [], pU), (96, [(2, -2)]))])
/-- 262: java/util/Arrays.fill -/
def kc_262 : ck_K := (yJ7_fill_53178, cJ7_fill_53178, 4, none, 15, [.inr (.inl 23), cF], pP, [(none, [], pU)], 1, 12, [(5, ([(3, .inl (12, 12, [])), (2, .inl (0, 12, [])), (0, .inr (.inl 23)), (1, .inl (-2147483648, 2147483647, [(2, 0, 0)]))], [], pU), (24, [(2, -2)]))])
/-- 263: RecastStage$Casting.castInto -/
def kc_263 : ck_K := (yX1_castInto, cX1_castInto, 3, none, 1, [.inr (.inl 1), .inr (.inl 26)], pP, [(none, [], pU)], 2, 35, [(7, ([(2, .inl (0, 6, [])), (0, .inr (.inl 1)), (1, .inr (.inl 26))], [], pU), (12, [(2, -2)]))])
/-- 264: RecastStage$Evening.castUnlessWhy -/
def kc_264 : ck_K := (yX2_castUnlessWhy, cX2_castUnlessWhy, 5, (some .int), 2, [.inr (.inl 2), .inr (.inl 6), .inl (0, 7, []), .inl (0, 5, [])], pP, [(some (.inl (0, 10, [])), [], pU)], 5, 106, [])
/-- 265: RecastStage$Evening.sendOff -/
def kc_265 : ck_K := (yX2_sendOff, cX2_sendOff, 1, none, 2, [.inr (.inl 2)], pP, [(none, [], pU)], 2, 35, [])
/-- 266: RecastStage$Evening.endAct (by hand) -/
def kc_266 : ck_K := (yX2_endAct, cX2_endAct, 4, none, 2, [.inr (.inl 2), .inr (.inl 6)], pP, [(none, [], pU)], 3, 59, [])
/-- 267: RecastStage$Evening.begin -/
def kc_267 : ck_K := (yX2_begin, cX2_begin, 1, none, 2, [.inr (.inl 2)], pP, [(none, [], pU)], 2, 35, [])
/-- 268: RecastStage$Evening.copyFrom -/
def kc_268 : ck_K := (yX2_copyFrom, cX2_copyFrom, 2, none, 2, [.inr (.inl 2), .inr (.inl 2)], pP, [(none, [], pU)], 1, 26, [])
/-- 269: RecastStage$History.keep -/
def kc_269 : ck_K := (yX3_keep, cX3_keep, 2, none, 3, [.inr (.inl 3), .inr (.inl 2)], pP, [(none, [], (pU.set 8 (.inl (1, 8, [(2016, 0, 1)]))))], 2, 47, [])
/-- 270: RecastStage$History.takeBack -/
def kc_270 : ck_K := (yX3_takeBack, cX3_takeBack, 2, (some .boolean), 3, [.inr (.inl 3), .inr (.inl 2)], pP, [(some (.inl (0, 0, [])), [], (pU.set 8 (.inl (0, 0, [(2016, 0, 0)])))), (some (.inl (1, 1, [])), [], (pU.set 8 (.inl (0, 7, [(2016, -1, -1)]))))], 2, 47, [])
/-- 271: RecastStage$Market.trade -/
def kc_271 : ck_K := (yX5_trade, cX5_trade, 7, (some .int), 5, [.inr (.inl 5), .inr (.inl 6), .inr (.inl 2), .inr (.inl 1)], pP, [(some (.inl (-1, 99, [])), [], (pU.set 7 (.inl (0, 6, []))))], 5, 110, [(39, ([(5, .inl (0, 1, [])), (4, .inl (0, 99, [])), (0, .inr (.inl 5)), (1, .inr (.inl 6)), (3, .inr (.inl 1))], [], (pU.set 7 (.inl (0, 6, [])))), (2079, [(4, -21)])), (57, ([(6, .inl (0, 8, [])), (4, .inl (1, 99, [])), (0, .inr (.inl 5)), (1, .inr (.inl 6)), (3, .inr (.inl 1))], [], (pU.set 7 (.inl (0, 6, [])))), (2096, [(4, -21), (6, -2)]))])
/-- 272: RecastStage$Play.clear -/
def kc_272 : ck_K := (yX6_clear, cX6_clear, 1, none, 6, [.inr (.inl 13)], pP, [(none, [], (((((pU.set 2 (.inl (0, 0, []))).set 3 (.inl (0, 0, []))).set 4 (.inl (0, 0, []))).set 5 (.inl (0, 0, []))).set 6 (.inl (0, 0, []))))], 2, 35, [])
/-- 273: RecastStage$PlayReader.read -/
def kc_273 : ck_K := (yX7_read, cX7_read, 4, (some .int), 7, [.inr (.inl 7), .inr (.inl 8)], pP, [(some (cF), [], ((((((pU.set 1 (.inl (0, 940, [(2002, 0, 940)]))).set 2 (.inl (0, 6, []))).set 3 (.inl (0, 6, []))).set 4 (.inl (0, 8, []))).set 5 (.inl (0, 6, []))).set 6 (.inl (0, 12, []))))], 7, 147, [(11, ([(3, .inl (0, 901, [])), (2, cF), (0, .inr (.inl 7)), (1, .inr (.inl 8))], [], ((((((pU.set 1 (.inl (0, 940, [(2002, 0, 940)]))).set 2 (.inl (0, 6, []))).set 3 (.inl (0, 6, []))).set 4 (.inl (0, 8, []))).set 5 (.inl (0, 6, []))).set 6 (.inl (0, 12, [])))), (1802, [(3, -2)]))])
/-- 274: RecastStage.best -/
def kc_274 : ck_K := (yX11_best, cX11_best, 1, (some .int), 11, [.inr (.inl 11)], pP, [(some (cF), [], (pU.set 7 (.inl (0, 6, []))))], 11, 252, [])
/-- 275: RecastStage.cast -/
def kc_275 : ck_K := (yX11_cast, cX11_cast, 4, (some .int), 11, [.inr (.inl 11), cF, cF], pP, [(some (.inl (-1, 10, [])), [], (pU.set 8 (.inl (0, 8, [(2016, 0, 1)]))))], 5, 106, [])
/-- 276: RecastStage.curtain -/
def kc_276 : ck_K := (yX11_curtain, cX11_curtain, 1, (some .int), 11, [.inr (.inl 11)], pP, [(some (cF), [], (pU.set 8 (.inl (0, 8, [(2016, 0, 1)]))))], 4, 82, [])
/-- 277: RecastStage.playBest -/
def kc_277 : ck_K := (yX11_playBest, cX11_playBest, 2, (some .boolean), 11, [.inr (.inl 11), .inr (.inl 2)], pP, [(some (.inl (0, 0, [])), [], (pU.set 7 (.inl (0, 6, [])))), (some (.inl (1, 1, [])), [], (pU.set 7 (.inl (0, 6, []))))], 11, 252, [])
/-- 278: RecastStage.playDrawn -/
def kc_278 : ck_K := (yX11_playDrawn, cX11_playDrawn, 6, none, 11, [.inr (.inl 11), .inr (.inl 2), cF], pP, [(none, [], (pU.set 7 (.inl (0, 6, []))))], 12, 273, [(12, ([(4, cF), (3, cF), (0, .inr (.inl 11)), (1, .inr (.inl 2))], [], (pU.set 7 (.inl (0, 6, [])))), (45097156606, [(4, -21)])), (27, ([(5, .inl (0, 8, [])), (4, .inl (-2147483648, 5, [])), (3, cF), (0, .inr (.inl 11)), (1, .inr (.inl 2))], [], (pU.set 7 (.inl (0, 6, [])))), (45097156603, [(4, -21), (5, -2)]))])
/-- 279: RecastStage.drawn -/
def kc_279 : ck_K := (yX11_drawn, cX11_drawn, 3, (some .int), 11, [.inr (.inl 11), cF], pP, [(some (cF), [], ((pU.set 7 (.inl (0, 6, []))).set 8 (.inl (0, 8, [(2016, 0, 1)]))))], 13, 298, [])
/-- 280: RecastStage.drop -/
def kc_280 : ck_K := (yX11_drop, cX11_drop, 3, (some .int), 11, [.inr (.inl 11), cF], pP, [(some (.inl (-1, 7, [])), [], (pU.set 8 (.inl (0, 8, [(2016, 0, 1)]))))], 3, 68, [])
/-- 281: RecastStage.goOnByBest -/
def kc_281 : ck_K := (yX11_goOnByBest, cX11_goOnByBest, 2, none, 11, [.inr (.inl 11)], pP, [(none, [], (pU.set 7 (.inl (0, 6, []))))], 12, 273, [(13, ([(1, .inl (0, 6, [])), (0, .inr (.inl 11))], [], (pU.set 7 (.inl (0, 6, [])))), (12, [(1, -2)]))])
/-- 282: RecastStage.goesOn -/
def kc_282 : ck_K := (yX11_goesOn, cX11_goesOn, 1, (some .int), 11, [.inr (.inl 11)], pP, [(some (cF), [], (pU.set 7 (.inl (0, 6, []))))], 13, 294, [])
/-- 283: RecastStage.image -/
def kc_283 : ck_K := (yX11_image, cX11_image, 3, (some .boolean), 11, [.inr (.inl 11), cF], pP, [(some (.inl (0, 0, [])), [], pU), (some (.inl (1, 1, [])), [(1, 0, 1)], pU)], 2, 47, [])
/-- 284: RecastStage.joy -/
def kc_284 : ck_K := (yX11_joy, cX11_joy, 1, (some .int), 11, [.inr (.inl 11)], pP, [(some (cF), [], (pU.set 7 (.inl (0, 6, []))))], 13, 294, [])
/-- 285: RecastStage.odds -/
def kc_285 : ck_K := (yX11_odds, cX11_odds, 5, (some .int), 11, [.inr (.inl 11), cF, cF], pP, [(some (cF), [], (pU.set 7 (.inl (0, 6, []))))], 13, 298, [(42, ([(4, .inl (0, 40, [])), (3, cF), (0, .inr (.inl 11)), (1, .inl (1, 40, [(2, 0, 0)])), (2, .inl (-2147483648, 2147483647, [(4, 0, 0)]))], [], (pU.set 7 (.inl (0, 6, [])))), (80, [(4, -2)]))])
/-- 286: RecastStage.play -/
def kc_286 : ck_K := (yX11_play, cX11_play, 2, (some .int), 11, [.inr (.inl 11)], pP, [(some (cF), [], ((((((((pU.set 0 (.inl (0, 0, []))).set 1 (.inl (0, 940, []))).set 2 (.inl (0, 6, []))).set 3 (.inl (0, 6, []))).set 4 (.inl (0, 8, []))).set 5 (.inl (0, 6, []))).set 6 (.inl (0, 12, []))).set 8 (.inl (0, 8, []))))], 8, 170, [])
/-- 287: RecastStage.prices -/
def kc_287 : ck_K := (yX11_prices, cX11_prices, 1, (some .int), 11, [.inr (.inl 11)], pP, [(some (.inl (-1, 99, [])), [], (pU.set 7 (.inl (0, 6, []))))], 6, 136, [])
/-- 288: RecastStage.restore -/
def kc_288 : ck_K := (yX11_restore, cX11_restore, 3, (some .boolean), 11, [.inr (.inl 11), cF], pP, [(some (.inl (0, 0, [])), [], pU), (some (.inl (1, 1, [])), [(1, 0, 1)], (pU.set 8 (.inl (0, 0, []))))], 2, 47, [])
/-- 289: RecastStage.undo -/
def kc_289 : ck_K := (yX11_undo, cX11_undo, 1, (some .int), 11, [.inr (.inl 11)], pP, [(some (.inl (-1, 7, [])), [], (pU.set 8 (.inl (0, 7, [(2016, -1, 0)]))))], 3, 68, [])
/-- 290: RecastStage.whisper -/
def kc_290 : ck_K := (yX11_whisper, cX11_whisper, 3, (some .boolean), 11, [.inr (.inl 11), cF, cF], pP, [(some (.inl (0, 0, [])), [], pU), (some (.inl (1, 1, [])), [(1, 0, 7), (2, 0, 5)], (pU.set 8 (.inl (1, 8, [(2016, 0, 1)]))))], 3, 68, [])
/-- 291: RecastStageModel.sets -/
def kc_291 : ck_K := (yX12_sets, cX12_sets, 2, (some .boolean), 12, [.inr (.inl 12), .inl (5, 139, [])], pPM, [(some (.inl (0, 0, [])), [], pUM), (some (.inl (1, 1, [])), [], (((pUM.set 12 (.inl (1, 940, [(2024, 0, 0)]))).set 13 (.inl (0, 940, [(2026, 0, 940)]))).set 14 (.inl (4, 4, [])))), (some (.inl (1, 1, [])), [], ((pUM.set 13 (.inl (0, 940, [(2026, 0, 940)]))).set 14 (.inl (0, 0, [])))), (some (.inl (1, 1, [])), [], (((pUM.set 12 (.inl (1, 940, [(2024, 0, 0)]))).set 13 (.inl (1, 940, [(2026, 1, 940)]))).set 14 (.inl (3, 3, [])))), (some (.inl (1, 1, [])), [], (((pUM.set 12 (.inl (1, 940, [(2024, 0, 0)]))).set 13 (.inl (0, 940, [(2026, 0, 940)]))).set 14 (.inl (1, 2, []))))], 3, 55, [])
/-- 292: RecastStageModel.pairs -/
def kc_292 : ck_K := (yX12_pairs, cX12_pairs, 4, (some .boolean), 12, [.inr (.inl 12)], pPM, [(some (.inl (0, 0, [])), [], ((((pUM.set 12 (.inl (1, 940, [(2024, 0, 0)]))).set 13 (.inl (0, 940, [(2026, 0, 940)]))).set 14 (.inl (4, 4, []))).set 24 (.inl (0, 5, [])))), (some (.inl (0, 0, [])), [], (((pUM.set 13 (.inl (0, 940, [(2026, 0, 940)]))).set 14 (.inl (0, 2, []))).set 24 (.inl (0, 7, [])))), (some (.inl (0, 0, [])), [], ((((pUM.set 12 (.inl (1, 940, [(2024, 0, 0)]))).set 13 (.inl (1, 940, [(2026, 1, 940)]))).set 14 (.inl (3, 3, []))).set 24 (.inl (0, 5, [])))), (some (.inl (0, 0, [])), [], (((pUM.set 13 (.inl (0, 940, [(2026, 0, 940)]))).set 14 (.inl (0, 4, []))).set 24 (cF))), (some (.inl (1, 1, [])), [], (((pUM.set 13 (.inl (0, 940, [(2026, 0, 940)]))).set 14 (.inl (0, 4, []))).set 24 (cF)))], 4, 79, [(72, ([(1, .inl (-1, -1, [])), (0, .inr (.inl 12))], [], pUM), (0, [])), (72, ([(1, .inl (0, 0, [])), (0, .inr (.inl 12))], [], (pUM.set 14 (.inl (1, 1, [(2028, 0, 0)])))), (7, [])), (72, ([(1, .inl (1, 1, [])), (0, .inr (.inl 12))], [], (pUM.set 14 (.inl (1, 1, [(2028, 0, 0)])))), (14, [])), (72, ([(1, .inl (2, 2, [])), (0, .inr (.inl 12))], [], (pUM.set 14 (.inl (1, 1, [(2028, 0, 0)])))), (20, [])), (72, ([(1, .inl (3, 3, [])), (0, .inr (.inl 12))], [], (pUM.set 14 (.inl (1, 1, [(2028, 0, 0)])))), (27, [])), (72, ([(1, .inl (4, 4, [])), (0, .inr (.inl 12))], [], (pUM.set 14 (.inl (1, 1, [(2028, 0, 0)])))), (34, [])), (86, ([(1, .inl (0, 0, [])), (0, .inr (.inl 12))], [], ((pUM.set 13 (.inl (0, 940, [(2026, 0, 940)]))).set 14 (.inl (0, 4, [])))), (6, [])), (86, ([(1, .inl (1, 1, [])), (0, .inr (.inl 12))], [], ((pUM.set 13 (.inl (0, 940, [(2026, 0, 940)]))).set 14 (.inl (0, 4, [])))), (13, [])), (86, ([(1, .inl (2, 2, [])), (0, .inr (.inl 12))], [], ((pUM.set 13 (.inl (0, 940, [(2026, 0, 940)]))).set 14 (.inl (0, 4, [])))), (19, [])), (86, ([(1, .inl (3, 3, [])), (0, .inr (.inl 12))], [], ((pUM.set 13 (.inl (0, 940, [(2026, 0, 940)]))).set 14 (.inl (0, 4, [])))), (26, [])), (86, ([(1, .inl (4, 4, [])), (0, .inr (.inl 12))], [], ((pUM.set 13 (.inl (0, 940, [(2026, 0, 940)]))).set 14 (.inl (0, 4, [])))), (33, [])), (144, ([(2, .inl (0, 5, [])), (1, .inl (0, 0, [])), (0, .inr (.inl 12))], [], (((pUM.set 13 (.inl (0, 940, [(2026, 0, 940)]))).set 14 (.inl (0, 4, []))).set 24 (.inl (0, 5, [])))), (5, [])), (144, ([(2, .inl (0, 5, [])), (1, .inl (1, 1, [])), (0, .inr (.inl 12))], [], (((pUM.set 13 (.inl (0, 940, [(2026, 0, 940)]))).set 14 (.inl (0, 4, []))).set 24 (.inl (0, 5, [])))), (12, [])), (144, ([(2, .inl (0, 7, [])), (1, .inl (2, 2, [])), (0, .inr (.inl 12))], [], (((pUM.set 13 (.inl (0, 940, [(2026, 0, 940)]))).set 14 (.inl (0, 4, []))).set 24 (.inl (0, 7, [])))), (18, [])), (144, ([(2, .inl (0, 7, [])), (1, .inl (3, 3, [])), (0, .inr (.inl 12))], [], (((pUM.set 13 (.inl (0, 940, [(2026, 0, 940)]))).set 14 (.inl (0, 4, []))).set 24 (.inl (0, 7, [])))), (25, [])), (144, ([(2, .inl (0, 7, [])), (1, .inl (4, 4, [])), (0, .inr (.inl 12))], [], (((pUM.set 13 (.inl (0, 940, [(2026, 0, 940)]))).set 14 (.inl (0, 4, []))).set 24 (.inl (0, 7, [])))), (32, [])), (204, ([(3, .inl (0, 5, [])), (2, .inl (0, 5, [])), (1, .inl (0, 0, [])), (0, .inr (.inl 12))], [], (((pUM.set 13 (.inl (0, 940, [(2026, 0, 940)]))).set 14 (.inl (1, 1, []))).set 24 (.inl (0, 5, [])))), (4, [])), (204, ([(3, .inl (0, 5, [])), (2, .inl (0, 5, [])), (1, .inl (1, 1, [])), (0, .inr (.inl 12))], [], (((pUM.set 13 (.inl (0, 940, [(2026, 0, 940)]))).set 14 (.inl (1, 1, []))).set 24 (.inl (0, 5, [])))), (11, [])), (204, ([(3, .inl (0, 5, [])), (2, .inl (0, 7, [])), (1, .inl (2, 2, [])), (0, .inr (.inl 12))], [], (((pUM.set 13 (.inl (0, 940, [(2026, 0, 940)]))).set 14 (.inl (1, 1, []))).set 24 (.inl (0, 5, [])))), (17, [])), (204, ([(3, .inl (0, 5, [])), (2, .inl (0, 7, [])), (1, .inl (3, 3, [])), (0, .inr (.inl 12))], [], (((pUM.set 13 (.inl (0, 940, [(2026, 0, 940)]))).set 14 (.inl (1, 1, []))).set 24 (.inl (0, 5, [])))), (24, [])), (204, ([(3, .inl (0, 7, [])), (2, .inl (0, 7, [])), (1, .inl (4, 4, [])), (0, .inr (.inl 12))], [], (((pUM.set 13 (.inl (0, 940, [(2026, 0, 940)]))).set 14 (.inl (1, 1, []))).set 24 (.inl (0, 7, [])))), (31, [])), (242, ([(3, .inl (0, 5, [])), (2, .inl (0, 5, [])), (1, .inl (0, 0, [])), (0, .inr (.inl 12))], [], (((pUM.set 13 (.inl (0, 940, [(2026, 0, 940)]))).set 14 (.inl (1, 1, []))).set 24 (.inl (0, 5, [])))), (3, [])), (242, ([(3, .inl (0, 5, [])), (2, .inl (0, 5, [])), (1, .inl (1, 1, [])), (0, .inr (.inl 12))], [], (((pUM.set 13 (.inl (0, 940, [(2026, 0, 940)]))).set 14 (.inl (1, 1, []))).set 24 (.inl (0, 5, [])))), (10, [])), (242, ([(3, .inl (0, 5, [])), (2, .inl (0, 7, [])), (1, .inl (2, 2, [])), (0, .inr (.inl 12))], [], (((pUM.set 13 (.inl (0, 940, [(2026, 0, 940)]))).set 14 (.inl (1, 1, []))).set 24 (.inl (0, 5, [])))), (16, [])), (242, ([(3, .inl (0, 5, [])), (2, .inl (0, 7, [])), (1, .inl (3, 3, [])), (0, .inr (.inl 12))], [], (((pUM.set 13 (.inl (0, 940, [(2026, 0, 940)]))).set 14 (.inl (1, 1, []))).set 24 (.inl (0, 5, [])))), (23, [])), (242, ([(3, .inl (0, 7, [])), (2, .inl (0, 7, [])), (1, .inl (4, 4, [])), (0, .inr (.inl 12))], [], (((pUM.set 13 (.inl (0, 940, [(2026, 0, 940)]))).set 14 (.inl (1, 1, []))).set 24 (.inl (0, 7, [])))), (30, [])), (263, ([(3, .inl (0, 5, [])), (2, .inl (0, 7, [])), (0, .inr (.inl 12))], [], (((pUM.set 13 (.inl (0, 940, [(2026, 0, 940)]))).set 14 (.inl (0, 4, []))).set 24 (cF))), (15, [])), (283, ([(3, .inl (0, 5, [])), (2, .inl (0, 5, [])), (1, .inl (0, 0, [])), (0, .inr (.inl 12))], [], (((pUM.set 13 (.inl (0, 940, [(2026, 0, 940)]))).set 14 (.inl (1, 1, []))).set 24 (.inl (0, 5, [])))), (2, [])), (283, ([(3, .inl (0, 5, [])), (2, .inl (0, 5, [])), (1, .inl (1, 1, [])), (0, .inr (.inl 12))], [], (((pUM.set 13 (.inl (0, 940, [(2026, 0, 940)]))).set 14 (.inl (1, 1, []))).set 24 (.inl (0, 5, [])))), (9, [])), (283, ([(3, .inl (0, 5, [])), (2, .inl (0, 7, [])), (1, .inl (3, 3, [])), (0, .inr (.inl 12))], [], (((pUM.set 13 (.inl (0, 940, [(2026, 0, 940)]))).set 14 (.inl (1, 1, []))).set 24 (.inl (0, 5, [])))), (22, [])), (283, ([(3, .inl (0, 7, [])), (2, .inl (0, 7, [])), (1, .inl (4, 4, [])), (0, .inr (.inl 12))], [], (((pUM.set 13 (.inl (0, 940, [(2026, 0, 940)]))).set 14 (.inl (1, 1, []))).set 24 (.inl (0, 7, [])))), (29, [])), (325, ([(3, .inl (0, 5, [])), (2, .inl (0, 5, [])), (1, .inl (0, 0, [])), (0, .inr (.inl 12))], [], (((pUM.set 13 (.inl (0, 940, [(2026, 0, 940)]))).set 14 (.inl (0, 4, []))).set 24 (.inl (0, 5, [])))), (1, [])), (325, ([(3, .inl (0, 5, [])), (2, .inl (0, 5, [])), (1, .inl (1, 1, [])), (0, .inr (.inl 12))], [], (((pUM.set 13 (.inl (0, 940, [(2026, 0, 940)]))).set 14 (.inl (0, 4, []))).set 24 (.inl (0, 5, [])))), (8, [])), (325, ([(3, .inl (0, 5, [])), (2, .inl (0, 7, [])), (1, .inl (3, 3, [])), (0, .inr (.inl 12))], [], (((pUM.set 13 (.inl (0, 940, [(2026, 0, 940)]))).set 14 (.inl (0, 4, []))).set 24 (.inl (0, 5, [])))), (21, [])), (325, ([(3, .inl (0, 7, [])), (2, .inl (0, 7, [])), (1, .inl (4, 4, [])), (0, .inr (.inl 12))], [], (((pUM.set 13 (.inl (0, 940, [(2026, 0, 940)]))).set 14 (.inl (0, 4, []))).set 24 (.inl (0, 7, [])))), (28, []))])
/-- 293: RecastStageModel.readScene (by hand) -/
def kc_293 : ck_K := (yX12_readScene, cX12_readScene, 2, (some .boolean), 12, [.inr (.inl 12)], pPM, [(some (.inl (0, 0, [])), [], ((((pU.set 13 (.inl (0, 940, [(2026, 0, 940)]))).set 14 (.inl (0, 4, []))).set 23 (.inl (0, 12, []))).set 24 (cF))), (some (.inl (1, 1, [])), [], ((((pU.set 13 (.inl (0, 940, [(2026, 1, 940)]))).set 14 (.inl (3, 3, []))).set 23 (.inl (0, 12, []))).set 24 (cF)))], 4, 76, [])
/-- 294: RecastStageModel.line -/
def kc_294 : ck_K := (yX12_line, cX12_line, 2, (some .boolean), 12, [.inr (.inl 12)], pPM, [(some (.inl (0, 0, [])), [], ((((pUM.set 12 (.inl (1, 940, [(2024, 0, 0)]))).set 13 (.inl (0, 940, [(2026, 0, 940)]))).set 14 (.inl (4, 4, []))).set 24 (.inl (0, 5, [])))), (some (.inl (0, 0, [])), [], (((pUM.set 13 (.inl (0, 940, [(2026, 0, 940)]))).set 14 (.inl (1, 2, []))).set 24 (cF))), (some (.inl (0, 0, [])), [], ((((pUM.set 12 (.inl (1, 940, [(2024, 0, 0)]))).set 13 (.inl (1, 940, [(2026, 1, 940)]))).set 14 (.inl (3, 3, []))).set 24 (.inl (0, 5, [])))), (some (.inl (0, 0, [])), [], ((((pUM.set 13 (.inl (0, 940, [(2026, 0, 940)]))).set 14 (.inl (0, 4, []))).set 23 (.inl (0, 12, []))).set 24 (cF))), (some (.inl (1, 1, [])), [], ((((((((pUM.set 12 (.inl (1, 940, [(2024, 0, 0)]))).set 13 (.inl (0, 940, [(2026, 0, 940)]))).set 14 (.inl (4, 4, []))).set 19 (.inl (0, 6, [(2038, 0, 1)]))).set 20 (.inl (0, 6, [(2040, 0, 1)]))).set 21 (.inl (0, 8, [(2042, 0, 1)]))).set 22 (.inl (0, 6, [(2044, 0, 1)]))).set 24 (cF))), (some (.inl (1, 1, [])), [], (((((((pUM.set 13 (.inl (0, 940, [(2026, 0, 940)]))).set 14 (.inl (0, 0, []))).set 19 (.inl (0, 6, [(2038, 0, 1)]))).set 20 (.inl (0, 6, [(2040, 0, 1)]))).set 21 (.inl (0, 8, [(2042, 0, 1)]))).set 22 (.inl (0, 6, [(2044, 0, 1)]))).set 24 (cF))), (some (.inl (1, 1, [])), [], ((((((((pUM.set 13 (.inl (1, 940, [(2026, 1, 940)]))).set 14 (.inl (3, 3, []))).set 19 (.inl (0, 6, [(2038, 0, 1)]))).set 20 (.inl (0, 6, [(2040, 0, 1)]))).set 21 (.inl (0, 8, [(2042, 0, 1)]))).set 22 (.inl (0, 6, [(2044, 0, 1)]))).set 23 (.inl (0, 12, []))).set 24 (cF))), (some (.inl (1, 1, [])), [], (((((((pUM.set 13 (.inl (0, 940, [(2026, 0, 940)]))).set 14 (.inl (0, 4, []))).set 19 (.inl (0, 6, [(2038, 0, 1)]))).set 20 (.inl (0, 6, [(2040, 0, 1)]))).set 21 (.inl (0, 8, [(2042, 0, 1)]))).set 22 (.inl (0, 6, [(2044, 0, 1)]))).set 24 (cF)))], 5, 102, [(33, ([(1, .inl (0, 5, [(2038, 0, 0)])), (0, .inr (.inl 12))], [], (((pUM.set 13 (.inl (0, 940, [(2026, 0, 940)]))).set 14 (.inl (0, 4, []))).set 19 (.inl (0, 5, [(2038, 0, 0)])))), (1, [])), (44, ([(1, .inl (0, 5, [(2038, 0, 0)])), (0, .inr (.inl 12))], [], (((pUM.set 13 (.inl (0, 940, [(2026, 0, 940)]))).set 14 (.inl (0, 4, []))).set 19 (.inl (0, 5, [(2038, 0, 0)])))), (0, [])), (81, ([(0, .inr (.inl 12))], [], pUM), (14, [])), (112, ([(0, .inr (.inl 12))], [], (((pUM.set 13 (.inl (0, 940, [(2026, 0, 940)]))).set 14 (.inl (0, 4, []))).set 20 (.inl (0, 5, [(2040, 0, 0)])))), (2, [])), (142, ([(0, .inr (.inl 12))], [], pUM), (13, [])), (175, ([(1, .inl (0, 7, [(2042, 0, 0)])), (0, .inr (.inl 12))], [], (((pUM.set 13 (.inl (0, 940, [(2026, 0, 940)]))).set 14 (.inl (0, 4, []))).set 21 (.inl (0, 7, [(2042, 0, 0)])))), (12, [])), (186, ([(1, .inl (0, 7, [(2042, 0, 0)])), (0, .inr (.inl 12))], [], (((pUM.set 13 (.inl (0, 940, [(2026, 0, 940)]))).set 14 (.inl (0, 4, []))).set 21 (.inl (0, 7, [(2042, 0, 0)])))), (11, [])), (198, ([(1, .inl (0, 7, [(2042, 0, 0)])), (0, .inr (.inl 12))], [], ((((pUM.set 13 (.inl (0, 940, [(2026, 0, 940)]))).set 14 (.inl (0, 4, []))).set 21 (.inl (0, 7, [(2042, 0, 0)]))).set 24 (cF))), (10, [])), (248, ([(0, .inr (.inl 12))], [], pUM), (9, [])), (291, ([(0, .inr (.inl 12))], [], pUM), (8, [])), (330, ([(0, .inr (.inl 12))], [], pUM), (7, [])), (345, ([(0, .inr (.inl 12))], [], pUM), (6, [])), (398, ([(1, .inl (0, 11, [(2046, -1, -1)])), (0, .inr (.inl 12))], [], (((pUM.set 13 (.inl (0, 940, [(2026, 0, 940)]))).set 14 (.inl (0, 4, []))).set 23 (.inl (1, 12, [(2046, 0, 0)])))), (4, [])), (413, ([(1, .inl (0, 11, [(2046, -1, -1)])), (0, .inr (.inl 12))], [], ((((pUM.set 13 (.inl (0, 940, [(2026, 0, 940)]))).set 14 (.inl (1, 1, []))).set 23 (.inl (1, 12, [(2046, 0, 0)]))).set 24 (.inl (0, 5, [])))), (3, [])), (431, ([(0, .inr (.inl 12))], [], pUM), (5, []))])
/-- 295: RecastStageModel.castsBy (by hand) -/
def kc_295 : ck_K := (yX12_castsBy, cX12_castsBy, 5, none, 12, [.inr (.inl 12), .inl (0, 1, []), cF], pPM, [(none, [], pU)], 5, 103, [])
/-- 296: RecastStageModel.best -/
def kc_296 : ck_K := (yX12_best, cX12_best, 2, (some .int), 12, [.inr (.inl 12)], pPM, [(some (cF), [], pUM)], 6, 127, [(22, ([(1, .inl (0, 6, [])), (0, .inr (.inl 12))], [], pUM), (12, [(1, -2)]))])
/-- 297: RecastStageModel.castsBest -/
def kc_297 : ck_K := (yX12_castsBest, cX12_castsBest, 2, (some .boolean), 12, [.inr (.inl 12)], pPM, [(some (.inl (0, 0, [])), [], pUM), (some (.inl (1, 1, [])), [], pUM)], 6, 127, [(21, ([(1, .inl (0, 6, [])), (0, .inr (.inl 12))], [], pUM), (12, [(1, -2)]))])
/-- 298: RecastStageModel.bowed -/
def kc_298 : ck_K := (yX12_bowed, cX12_bowed, 2, (some .int), 12, [.inr (.inl 12), cF], pPM, [(some (cF), [], pUM)], 6, 127, [])
/-- 299: RecastStageModel.casts -/
def kc_299 : ck_K := (yX12_casts, cX12_casts, 1, (some .int), 12, [.inr (.inl 12)], pPM, [(some (cF), [], pUM)], 6, 127, [])
/-- 300: RecastStageModel.draws -/
def kc_300 : ck_K := (yX12_draws, cX12_draws, 4, (some .int), 12, [.inr (.inl 12), cF], pPM, [(some (cF), [], (pU.set 16 (.inl (0, 6, [(2032, 0, 6), (2034, -6, 0)]))))], 7, 148, [(7, ([(2, cF), (0, .inr (.inl 12))], [], (pU.set 16 (.inl (0, 6, [(2032, 0, 6), (2034, -6, 0)])))), (145, [(1016, -21)])), (16, ([(3, .inl (0, 8, [])), (2, cF), (0, .inr (.inl 12))], [], (pU.set 16 (.inl (0, 5, [(2032, 0, 5), (2034, -6, -1)])))), (142, [(1016, -21), (3, -2)]))])
/-- 301: RecastStageModel.goesOnBy -/
def kc_301 : ck_K := (yX12_goesOnBy, cX12_goesOnBy, 3, (some .int), 12, [.inr (.inl 12)], pPM, [(some (cF), [], (pUM.set 18 (.inl (0, 6, [(2032, 0, 0), (2034, -6, 0)]))))], 7, 148, [(15, ([(2, cF), (1, cF), (0, .inr (.inl 12))], [], ((pU.set 16 (.inl (0, 6, [(2032, 0, 6), (2034, -6, 0)]))).set 18 (.inl (0, 6, [(2032, 0, 0), (2034, -6, 0)])))), (12, [(1016, -2)]))])
/-- 302: RecastStageModel.goesOn -/
def kc_302 : ck_K := (yX12_goesOn, cX12_goesOn, 1, (some .int), 12, [.inr (.inl 12)], pPM, [(some (cF), [], (pUM.set 18 (.inl (0, 6, [(2032, 0, 0), (2034, -6, 0)]))))], 8, 170, [])
/-- 303: RecastStageModel.joy -/
def kc_303 : ck_K := (yX12_joy, cX12_joy, 1, (some .int), 12, [.inr (.inl 12)], pPM, [(some (cF), [], (pUM.set 18 (.inl (0, 6, [(2032, 0, 0), (2034, -6, 0)]))))], 8, 170, [])
/-- 304: RecastStageModel.least -/
def kc_304 : ck_K := (yX12_least, cX12_least, 1, (some .int), 12, [.inr (.inl 12)], pPM, [(some (cF), [], pUM)], 6, 127, [])
/-- 305: RecastStageModel.odds -/
def kc_305 : ck_K := (yX12_odds, cX12_odds, 5, (some .int), 12, [.inr (.inl 12), cF, cF], pPM, [(some (cF), [], (pUM.set 18 (.inl (0, 6, []))))], 8, 171, [(42, ([(4, .inl (0, 40, [])), (3, cF), (0, .inr (.inl 12)), (1, .inl (1, 40, [(2, 0, 0)])), (2, .inl (-2147483648, 2147483647, [(4, 0, 0)]))], [], ((pU.set 16 (.inl (0, 5, [(2032, 0, 0), (2034, -6, -1)]))).set 18 (.inl (0, 5, [(2032, 0, 0), (2034, -6, -1)])))), (80, [(4, -2)]))])
/-- 306: RecastStageModel.surely -/
def kc_306 : ck_K := (yX12_surely, cX12_surely, 1, (some .int), 12, [.inr (.inl 12)], pPM, [(some (cF), [], pUM)], 6, 127, [])
/-- 307: RecastStageModel.whispers -/
def kc_307 : ck_K := (yX12_whispers_, cX12_whispers_, 1, (some .int), 12, [.inr (.inl 12)], pPM, [(some (cF), [], pUM)], 6, 127, [])
/-- 308: RecastStage$Book.judge (by hand) -/
def kc_308 : ck_K := (yX0_judge, cX0_judge, 6, (some .int), 0, [.inr (.inl 0), .inr (.inl 6), .inr (.inl 2), .inr (.inl 1)], pP, [(some (cF), [], (pU.set 7 (.inl (0, 6, []))))], 12, 278, [])
/-- 309: RecastStage$Book.read (by hand) -/
def kc_309 : ck_K := (yX0_read, cX0_read, 4, none, 0, [.inr (.inl 0), .inr (.inl 8), .inr (.inl 6)], pP, [(none, [], (pU.set 1 (.inl (0, 940, []))))], 6, 127, [])
/-- 310: RecastStage.book -/
def kc_310 : ck_K := (yX11_book, cX11_book, 3, (some .int), 11, [.inr (.inl 11), .inl (-2147483648, -1, [])], pP, [(some (.inl (-1000, -1000, [])), [], pU)], 1, 12, [])
/-- 311: RecastStage.book -/
def kc_311 : ck_K := (yX11_book, cX11_book, 3, (some .int), 11, [.inr (.inl 11), .inl (0, 1, [])], pP, [(some (cF), [], ((((pU.set 0 (.inl (0, 0, []))).set 1 (.inl (0, 940, []))).set 7 (.inl (0, 6, []))).set 8 (.inl (0, 8, [(2016, 0, 1)]))))], 13, 303, [])
/-- 312: RecastStage.book -/
def kc_312 : ck_K := (yX11_book, cX11_book, 3, (some .int), 11, [.inr (.inl 11), .inl (2, 2147483647, [])], pP, [(some (.inl (-1000, -1000, [])), [], pU)], 1, 12, [])
/-- 313: RecastStageModel.keep (by hand) -/
def kc_313 : ck_K := (yX12_keep, cX12_keep, 2, none, 12, [.inr (.inl 12)], pPM, [(none, [], (pU.set 15 (.inl (1, 8, []))))], 1, 12, [])
/-- 314: RecastStageModel.book (by hand) -/
def kc_314 : ck_K := (yX12_book, cX12_book, 5, (some .int), 12, [.inr (.inl 12), cF], pPM, [(some (cF), [(1, 0, 1)], ((((((((pU.set 11 (.inl (0, 0, []))).set 12 (.inl (0, 940, []))).set 13 (.inl (0, 940, []))).set 14 (.inl (0, 4, []))).set 15 (.inl (0, 8, []))).set 16 (.inl (0, 6, [(2034, -6, 0)]))).set 18 (.inl (0, 6, []))).set 24 (cF))), (some (.inl (-1000, -1000, [])), [(1, -2147483648, -1)], (((((((pU.set 12 (.inl (0, 940, []))).set 13 (.inl (0, 940, []))).set 14 (.inl (0, 4, []))).set 15 (.inl (0, 8, []))).set 16 (.inl (0, 6, [(2034, -6, 0)]))).set 18 (.inl (0, 6, []))).set 24 (cF))), (some (.inl (-1000, -1000, [])), [(1, 2, 2147483647)], (((((((pU.set 12 (.inl (0, 940, []))).set 13 (.inl (0, 940, []))).set 14 (.inl (0, 4, []))).set 15 (.inl (0, 8, []))).set 16 (.inl (0, 6, [(2034, -6, 0)]))).set 18 (.inl (0, 6, []))).set 24 (cF)))], 8, 172, [])
/-- 315: RecastStageModel.cast -/
def kc_315 : ck_K := (yX12_cast, cX12_cast, 4, (some .int), 12, [.inr (.inl 12), cF, cF], pPM, [(some (.inl (-1, 10, [])), [], (pUM.set 15 (.inl (0, 8, []))))], 4, 81, [])
/-- 316: RecastStageModel.curtain -/
def kc_316 : ck_K := (yX12_curtain, cX12_curtain, 1, (some .int), 12, [.inr (.inl 12)], pPM, [(some (.inl (-1, 6, [])), [], ((pU.set 15 (.inl (0, 8, []))).set 16 (.inl (0, 6, [(2032, 0, 1), (2034, -6, 0)]))))], 4, 79, [])
/-- 317: RecastStageModel.drawn -/
def kc_317 : ck_K := (yX12_drawn, cX12_drawn, 2, (some .int), 12, [.inr (.inl 12), cF], pPM, [(some (cF), [], ((pU.set 15 (.inl (0, 8, []))).set 16 (.inl (0, 6, [(2032, 0, 6), (2034, -6, 0)]))))], 8, 171, [])
/-- 318: RecastStageModel.drop -/
def kc_318 : ck_K := (yX12_drop, cX12_drop, 3, (some .int), 12, [.inr (.inl 12), cF], pPM, [(some (.inl (-1, 7, [])), [], (pUM.set 15 (.inl (0, 8, []))))], 3, 55, [])
/-- 319: RecastStageModel.image (by hand) -/
def kc_319 : ck_K := (yX12_image, cX12_image, 3, (some .boolean), 12, [.inr (.inl 12), cF], pPM, [(some (.inl (0, 1, [])), [], pU)], 2, 34, [])
/-- 320: RecastStageModel.isSaid (by hand) -/
def kc_320 : ck_K := (yX12_isSaid, cX12_isSaid, 5, (some .boolean), 12, [.inr (.inl 12), .inl (0, 7, [])], pPM, [(some (.inl (0, 1, [])), [], pU)], 5, 102, [])
/-- 321: RecastStageModel.play (by hand) -/
def kc_321 : ck_K := (yX12_play, cX12_play, 2, (some .int), 12, [.inr (.inl 12)], pPM, [(some (cF), [], ((((((((((pU.set 11 (.inl (0, 0, []))).set 12 (.inl (0, 940, []))).set 13 (.inl (0, 940, []))).set 14 (.inl (0, 4, []))).set 19 (.inl (0, 6, []))).set 20 (.inl (0, 6, []))).set 21 (.inl (0, 8, []))).set 22 (.inl (0, 6, []))).set 23 (.inl (0, 12, []))).set 24 (cF))), (some (cF), [], [.inl (0, 940, [(2000, 0, 0)]), .inl (0, 940, [(2002, 0, 0)]), .inl (0, 6, [(2004, 0, 0)]), .inl (0, 6, [(2006, 0, 0)]), .inl (0, 8, [(2008, 0, 0)]), .inl (0, 6, [(2010, 0, 0)]), .inl (0, 12, [(2012, 0, 0)]), .inl (0, 6, [(2014, 0, 0)]), .inl (0, 8, [(2016, 0, 0)]), .inl (0, 20, [(2018, 0, 0)]), .inl (0, 40, [(2020, 0, 0)]), .inl (0, 0, []), .inl (0, 940, []), .inl (0, 940, []), .inl (0, 4, []), .inl (0, 0, []), .inl (0, 0, []), .inl (0, 6, []), .inl (0, 6, [(2036, 0, 0)]), .inl (0, 6, []), .inl (0, 6, []), .inl (0, 8, []), .inl (0, 6, []), .inl (0, 12, []), cF])], 6, 123, [])
/-- 322: RecastStageModel.restore (by hand) -/
def kc_322 : ck_K := (yX12_restore, cX12_restore, 3, (some .boolean), 12, [.inr (.inl 12), cF], pPM, [(some (.inl (0, 0, [])), [], pU), (some (.inl (1, 1, [])), [], (((pU.set 15 (.inl (0, 0, []))).set 16 (.inl (0, 0, []))).set 17 (.inl (0, 0, [])))), (some (.inl (1, 1, [])), [], (((pU.set 15 (.inl (0, 0, []))).set 16 (.inl (0, 1, []))).set 17 (.inl (1, 1, [])))), (some (.inl (1, 1, [])), [], (((pU.set 15 (.inl (0, 0, []))).set 16 (.inl (0, 2, []))).set 17 (.inl (2, 2, [])))), (some (.inl (1, 1, [])), [], (((pU.set 15 (.inl (0, 0, []))).set 16 (.inl (0, 3, []))).set 17 (.inl (3, 3, [])))), (some (.inl (1, 1, [])), [], (((pU.set 15 (.inl (0, 0, []))).set 16 (.inl (0, 4, []))).set 17 (.inl (4, 4, [])))), (some (.inl (1, 1, [])), [], (((pU.set 15 (.inl (0, 0, []))).set 16 (.inl (0, 5, []))).set 17 (.inl (5, 5, [])))), (some (.inl (1, 1, [])), [], (((pU.set 15 (.inl (0, 0, []))).set 16 (.inl (0, 6, []))).set 17 (.inl (6, 6, []))))], 2, 34, [])
/-- 323: RecastStageModel.said -/
def kc_323 : ck_K := (yX12_said, cX12_said, 4, (some .int), 12, [.inr (.inl 12), cF], pPM, [(some (cF), [], pUM)], 6, 126, [(27, ([(3, .inl (0, 8, [])), (2, cF), (0, .inr (.inl 12)), (1, .inl (-1, 2147483647, [(2, 0, 0)]))], [], pUM), (16, [(3, -2)]))])
/-- 324: RecastStageModel.sentence (by hand) -/
def kc_324 : ck_K := (yX12_sentence, cX12_sentence, 3, (some .int), 12, [.inr (.inl 12)], pPM, [(some (cF), [], (((((pU.set 11 (.inl (0, 0, []))).set 12 (.inl (0, 940, []))).set 13 (.inl (0, 940, []))).set 14 (.inl (0, 4, []))).set 24 (cF)))], 4, 79, [])
/-- 325: RecastStageModel.undo (by hand) -/
def kc_325 : ck_K := (yX12_undo, cX12_undo, 2, (some .int), 12, [.inr (.inl 12)], pPM, [(some (.inl (-1, -1, [])), [], pU), (some (.inl (0, 7, [])), [], ((pU.set 15 (.inl (0, 7, []))).set 16 (.inl (0, 6, [(2034, -6, 0)]))))], 1, 12, [])
/-- 326: RecastStageModel.whisper -/
def kc_326 : ck_K := (yX12_whisper, cX12_whisper, 3, (some .boolean), 12, [.inr (.inl 12), cF, cF], pPM, [(some (.inl (0, 0, [])), [], pUM), (some (.inl (1, 1, [])), [(1, 0, 7), (2, 0, 5)], ((pU.set 15 (.inl (1, 8, []))).set 16 (.inl (0, 5, [(2032, 0, 0), (2034, -6, -1)]))))], 4, 77, [])
/-- None: RecastStage$Book.whyWrong (by hand) -/
def kh_0_whyWrong : ck_K := (yX0_whyWrong, cX0_whyWrong, 7, (some .int), 0, [.inr (.inl 0), .inl (0, 39, []), .inr (.inl 6), .inr (.inl 2), .inr (.inl 1)], pP, [(some (cF), [], (pU.set 7 (.inl (0, 6, []))))], 11, 252, [])
/-- None: RecastStage$Book.readLine (by hand) -/
def kh_0_readLine : ck_K := (yX0_readLine, cX0_readLine, 5, none, 0, [.inr (.inl 0), .inr (.inl 8), .inr (.inl 6)], pP, [(none, [], (pU.set 1 (.inl (0, 940, []))))], 5, 103, [])
/-- None: RecastStageModel.code (by hand) -/
def kh_12_code : ck_K := (yX12_code, cX12_code, 4, none, 12, [.inr (.inl 12), cF, cF, cF], pPM, [(none, [], pU)], 1, 12, [])
/-- None: RecastStageModel.joins (by hand) -/
def kh_12_joins : ck_K := (yX12_joins, cX12_joins, 2, none, 12, [.inr (.inl 12), cF], pPM, [(none, [], pU)], 2, 35, [])
/-- None: RecastStageModel.nots (by hand) -/
def kh_12_nots : ck_K := (yX12_nots, cX12_nots, 1, none, 12, [.inr (.inl 12)], pPM, [(none, [], pU)], 2, 35, [])
/-- None: RecastStageModel.behind (by hand) -/
def kh_12_behind : ck_K := (yX12_behind, cX12_behind, 1, (some .boolean), 12, [.inr (.inl 12)], pPM, [(some (.inl (0, 1, [])), [], ((((pU.set 12 (.inl (0, 940, []))).set 13 (.inl (0, 940, []))).set 14 (.inl (0, 4, []))).set 24 (cF)))], 3, 56, [])
/-- None: RecastStageModel.bookLine (by hand) -/
def kh_12_bookLine : ck_K := (yX12_bookLine, cX12_bookLine, 3, (some .boolean), 12, [.inr (.inl 12)], pPM, [(some (.inl (0, 1, [])), [], ((((pU.set 12 (.inl (0, 940, []))).set 13 (.inl (0, 940, []))).set 14 (.inl (0, 4, []))).set 24 (cF)))], 3, 57, [])
/-- None: RecastStageModel.does (by hand) -/
def kh_12_does : ck_K := (yX12_does, cX12_does, 5, (some .int), 12, [.inr (.inl 12), .inl (0, 117, [])], pPM, [(some (cF), [], (pU.set 16 (.inl (0, 6, [(2034, -6, 0)]))))], 7, 148, [])
/-- None: RecastStageModel.operand (by hand) -/
def kh_12_operand : ck_K := (yX12_operand, cX12_operand, 5, (some .boolean), 12, [.inr (.inl 12)], pPM, [(some (.inl (0, 1, [])), [], ((((pU.set 12 (.inl (0, 940, []))).set 13 (.inl (0, 940, []))).set 14 (.inl (0, 4, []))).set 24 (cF)))], 3, 55, [])
abbrev kn_8_isAtName : ck_K := kc_0
abbrev kn_0_canBegin : ck_K := kc_1
abbrev kn_11_has : ck_K := kc_2
abbrev kn_14_min : ck_K := kc_3
abbrev kn_1_cheapestAt : ck_K := kc_4
abbrev kn_1_freeMen : ck_K := kc_5
abbrev kn_1_seekCheapest_6 : ck_K := kc_6
abbrev kn_1_seekCheapest_5 : ck_K := kc_7
abbrev kn_1_seekCheapest_4 : ck_K := kc_8
abbrev kn_1_seekCheapest_3 : ck_K := kc_9
abbrev kn_1_seekCheapest_2 : ck_K := kc_10
abbrev kn_1_seekCheapest_1 : ck_K := kc_11
abbrev kn_1_seekCheapest_0 : ck_K := kc_12
abbrev kn_1_findCheapest : ck_K := kc_13
abbrev kn_2_isOver : ck_K := kc_14
abbrev kn_2_unknownTo : ck_K := kc_15
abbrev kn_6_partsOf : ck_K := kc_16
abbrev kn_2_whyUnfit : ck_K := kc_17
abbrev kn_1_ableMen : ck_K := kc_18
abbrev kn_6_partsBeside : ck_K := kc_19
abbrev kn_1_prepare : ck_K := kc_20
abbrev kn_6_liking_p : ck_K := kc_21
abbrev kn_6_liking_t : ck_K := kc_22
abbrev kn_1_findBest : ck_K := kc_23
abbrev kn_2_canEndAct : ck_K := kc_24
abbrev kn_2_canTell : ck_K := kc_25
abbrev kn_2_meetsFoe : ck_K := kc_26
abbrev kn_2_partOf : ck_K := kc_27
abbrev kn_2_whyNot : ck_K := kc_28
abbrev kn_2_clap : ck_K := kc_29
abbrev kn_2_learn : ck_K := kc_30
abbrev kn_14_abs : ck_K := kc_31
abbrev kn_2_lossBy : ck_K := kc_32
abbrev kn_2_menOn : ck_K := kc_33
abbrev kn_2_tell : ck_K := kc_34
abbrev kn_8_fail : ck_K := kc_35
abbrev kn_8_isFine : ck_K := kc_36
abbrev kn_8_indexOf_27 : ck_K := kc_37
abbrev kn_8_indexOf_6 : ck_K := kc_38
abbrev kn_8_indexOf_8 : ck_K := kc_39
abbrev kn_8_nameHere_6 : ck_K := kc_40
abbrev kn_8_nameHere_8 : ck_K := kc_41
abbrev kn_8_isBlank : ck_K := kc_42
abbrev kn_8_isDigit : ck_K := kc_43
abbrev kn_8_isLetter : ck_K := kc_44
abbrev kn_8_isSign : ck_K := kc_45
abbrev kn_8_withLetter : ck_K := kc_46
abbrev kn_10_byteAt : ck_K := kc_47
abbrev kn_8_readRun : ck_K := kc_48
abbrev kn_8_step : ck_K := kc_49
abbrev kn_8_takeName_6 : ck_K := kc_50
abbrev kn_8_takeName_8 : ck_K := kc_51
abbrev kn_8_isAtWord : ck_K := kc_52
abbrev kn_8_takeWord : ck_K := kc_53
abbrev kn_8_wordHere : ck_K := kc_54
abbrev kn_8_isAtSign : ck_K := kc_55
abbrev kn_8_takeSign : ck_K := kc_56
abbrev kn_1_ableForAny : ck_K := kc_57
abbrev kn_13_bitCount : ck_K := kc_58
abbrev kn_1_addLast : ck_K := kc_59
abbrev kn_1_seekAll_6 : ck_K := kc_60
abbrev kn_1_seekAll_5 : ck_K := kc_61
abbrev kn_1_seekAll_4 : ck_K := kc_62
abbrev kn_1_seekAll_3 : ck_K := kc_63
abbrev kn_1_seekAll_2 : ck_K := kc_64
abbrev kn_1_seekAll_1 : ck_K := kc_65
abbrev kn_1_seekAll_0 : ck_K := kc_66
abbrev kn_6_allMen : ck_K := kc_67
abbrev kn_1_countBy : ck_K := kc_68
abbrev kn_1_fewestWhispers : ck_K := kc_69
abbrev kn_1_joyOfBest : ck_K := kc_70
abbrev kn_1_leastLoss : ck_K := kc_71
abbrev kn_1_partsAt : ck_K := kc_72
abbrev kn_1_shortSet : ck_K := kc_73
abbrev kn_6_suspectsWith : ck_K := kc_74
abbrev kn_6_isSureWith : ck_K := kc_75
abbrev kn_2_sureMen : ck_K := kc_76
abbrev kn_3_forget : ck_K := kc_77
abbrev kn_5_raise : ck_K := kc_78
abbrev kn_5_wishOf : ck_K := kc_79
abbrev kn_6_actsWith : ck_K := kc_80
abbrev kn_6_copyFrom_p : ck_K := kc_81
abbrev kn_6_copyFrom_t : ck_K := kc_82
abbrev kn_6_factsOf : ck_K := kc_83
abbrev kn_6_hasFact : ck_K := kc_84
abbrev kn_6_hasMan : ck_K := kc_85
abbrev kn_6_hasName : ck_K := kc_86
abbrev kn_6_hasPart : ck_K := kc_87
abbrev kn_6_scenesOf : ck_K := kc_88
abbrev kn_7_takeOneOf_6 : ck_K := kc_89
abbrev kn_7_takeOneOf_8 : ck_K := kc_90
abbrev kn_7_takeOneOf_12 : ck_K := kc_91
abbrev kn_7_readAct : ck_K := kc_92
abbrev kn_7_takeOnce : ck_K := kc_93
abbrev kn_7_readClears : ck_K := kc_94
abbrev kn_7_takeNewName_6 : ck_K := kc_95
abbrev kn_7_takeNewName_8 : ck_K := kc_96
abbrev kn_7_readFact : ck_K := kc_97
abbrev kn_7_readFoes : ck_K := kc_98
abbrev kn_8_takeNumber : ck_K := kc_99
abbrev kn_7_readLikes : ck_K := kc_100
abbrev kn_7_readMan : ck_K := kc_101
abbrev kn_7_readNeeds : ck_K := kc_102
abbrev kn_7_readNever : ck_K := kc_103
abbrev kn_7_readPart : ck_K := kc_104
abbrev kn_7_readRest : ck_K := kc_105
abbrev kn_7_readScene : ck_K := kc_106
abbrev kn_7_readShows : ck_K := kc_107
abbrev kn_7_readLine : ck_K := kc_108
abbrev kn_8_open : ck_K := kc_109
abbrev kn_9_addStep : ck_K := kc_110
abbrev kn_9_clear_s : ck_K := kc_111
abbrev kn_9_clear_n : ck_K := kc_112
abbrev kn_9_compares : ck_K := kc_113
abbrev kn_9_copyFrom_s : ck_K := kc_114
abbrev kn_9_copyFrom_n : ck_K := kc_115
abbrev kn_9_holdsFor : ck_K := kc_116
abbrev kn_9_menOfOne : ck_K := kc_117
abbrev kn_9_menOf : ck_K := kc_118
abbrev kn_9_readPlainOne : ck_K := kc_119
abbrev kn_9_readOne_9 : ck_K := kc_120
abbrev kn_9_readAll_8 : ck_K := kc_121
abbrev kn_9_readCond_8 : ck_K := kc_122
abbrev kn_9_readOne_8 : ck_K := kc_123
abbrev kn_9_readAll_7 : ck_K := kc_124
abbrev kn_9_readCond_7 : ck_K := kc_125
abbrev kn_9_readOne_7 : ck_K := kc_126
abbrev kn_9_readAll_6 : ck_K := kc_127
abbrev kn_9_readCond_6 : ck_K := kc_128
abbrev kn_9_readOne_6 : ck_K := kc_129
abbrev kn_9_readAll_5 : ck_K := kc_130
abbrev kn_9_readCond_5 : ck_K := kc_131
abbrev kn_9_readOne_5 : ck_K := kc_132
abbrev kn_9_readAll_4 : ck_K := kc_133
abbrev kn_9_readCond_4 : ck_K := kc_134
abbrev kn_9_readOne_4 : ck_K := kc_135
abbrev kn_9_readAll_3 : ck_K := kc_136
abbrev kn_9_readCond_3 : ck_K := kc_137
abbrev kn_9_readOne_3 : ck_K := kc_138
abbrev kn_9_readAll_2 : ck_K := kc_139
abbrev kn_9_readCond_2 : ck_K := kc_140
abbrev kn_9_readOne_2 : ck_K := kc_141
abbrev kn_9_readAll_1 : ck_K := kc_142
abbrev kn_9_readCond_1 : ck_K := kc_143
abbrev kn_9_readOne_1 : ck_K := kc_144
abbrev kn_9_readAll_0 : ck_K := kc_145
abbrev kn_9_readCond_0 : ck_K := kc_146
abbrev kn_9_read : ck_K := kc_147
abbrev kn_10_hasRoom_4 : ck_K := kc_148
abbrev kn_10_hasRoom_20 : ck_K := kc_149
abbrev kn_10_append : ck_K := kc_150
abbrev kn_11_act : ck_K := kc_151
abbrev kn_11_bestAs : ck_K := kc_152
abbrev kn_11_booked : ck_K := kc_153
abbrev kn_11_bowed : ck_K := kc_154
abbrev kn_11_casts : ck_K := kc_155
abbrev kn_11_count : ck_K := kc_156
abbrev kn_11_end : ck_K := kc_157
abbrev kn_11_fault : ck_K := kc_158
abbrev kn_11_firstWithMost : ck_K := kc_159
abbrev kn_11_favourite : ck_K := kc_160
abbrev kn_11_feed : ck_K := kc_161
abbrev kn_11_lacks : ck_K := kc_162
abbrev kn_11_least : ck_K := kc_163
abbrev kn_11_now : ck_K := kc_164
abbrev kn_11_part : ck_K := kc_165
abbrev kn_11_price : ck_K := kc_166
abbrev kn_11_said : ck_K := kc_167
abbrev kn_11_scene : ck_K := kc_168
abbrev kn_11_sentence : ck_K := kc_169
abbrev kn_11_sure : ck_K := kc_170
abbrev kn_11_surely : ck_K := kc_171
abbrev kn_11_suspects : ck_K := kc_172
abbrev kn_11_tells : ck_K := kc_173
abbrev kn_11_wants : ck_K := kc_174
abbrev kn_11_whispers : ck_K := kc_175
abbrev kn_11_why : ck_K := kc_176
abbrev kn_12_factsOf : ck_K := kc_177
abbrev kn_12_isIn_0_1 : ck_K := kc_178
abbrev kn_12_isIn_0_2 : ck_K := kc_179
abbrev kn_12_isIn_0_3 : ck_K := kc_180
abbrev kn_12_isIn_0_5 : ck_K := kc_181
abbrev kn_12_isIn_0_7 : ck_K := kc_182
abbrev kn_12_isIn_0_11 : ck_K := kc_183
abbrev kn_12_isIn_40 : ck_K := kc_184
abbrev kn_12_isIn_x : ck_K := kc_185
abbrev kn_12_partsOf : ck_K := kc_186
abbrev kn_12_act : ck_K := kc_187
abbrev kn_12_bitOf : ck_K := kc_188
abbrev kn_12_areTogether : ck_K := kc_189
abbrev kn_12_back : ck_K := kc_190
abbrev kn_12_bad : ck_K := kc_191
abbrev kn_12_isDigit : ck_K := kc_192
abbrev kn_12_isSmall : ck_K := kc_193
abbrev kn_12_peek : ck_K := kc_194
abbrev kn_12_go : ck_K := kc_195
abbrev kn_12_isSign : ck_K := kc_196
abbrev kn_12_isWord : ck_K := kc_197
abbrev kn_12_bits : ck_K := kc_198
abbrev kn_12_lacking : ck_K := kc_199
abbrev kn_12_off : ck_K := kc_200
abbrev kn_12_counts : ck_K := kc_201
abbrev kn_12_isOver : ck_K := kc_202
abbrev kn_12_whyAlone : ck_K := kc_203
abbrev kn_12_canAlone : ck_K := kc_204
abbrev kn_12_fits : ck_K := kc_205
abbrev kn_12_bestAs : ck_K := kc_206
abbrev kn_12_find_6 : ck_K := kc_207
abbrev kn_12_find_8 : ck_K := kc_208
abbrev kn_12_isName : ck_K := kc_209
abbrev kn_12_looksAt_6 : ck_K := kc_210
abbrev kn_12_looksAt_8 : ck_K := kc_211
abbrev kn_12_castAs : ck_K := kc_212
abbrev kn_12_canRise : ck_K := kc_213
abbrev kn_12_isMan : ck_K := kc_214
abbrev kn_12_canWhisper : ck_K := kc_215
abbrev kn_12_drops : ck_K := kc_216
abbrev kn_12_castNow : ck_K := kc_217
abbrev kn_12_clapsFor : ck_K := kc_218
abbrev kn_12_plays : ck_K := kc_219
abbrev kn_12_rises : ck_K := kc_220
abbrev kn_12_whispers_221 : ck_K := kc_221
abbrev kn_12_whyOf : ck_K := kc_222
abbrev kn_12_sign : ck_K := kc_223
abbrev kn_12_taken : ck_K := kc_224
abbrev kn_12_tries : ck_K := kc_225
abbrev kn_12_booked : ck_K := kc_226
abbrev kn_12_isPart : ck_K := kc_227
abbrev kn_12_count : ck_K := kc_228
abbrev kn_12_draw : ck_K := kc_229
abbrev kn_12_end : ck_K := kc_230
abbrev kn_12_fault : ck_K := kc_231
abbrev kn_12_valueOf : ck_K := kc_232
abbrev kn_12_favourite : ck_K := kc_233
abbrev kn_12_four : ck_K := kc_234
abbrev kn_12_feed : ck_K := kc_235
abbrev kn_12_fresh : ck_K := kc_236
abbrev kn_12_suspectsBy : ck_K := kc_237
abbrev kn_12_isSure : ck_K := kc_238
abbrev kn_12_isLeaf : ck_K := kc_239
abbrev kn_12_lacks : ck_K := kc_240
abbrev kn_12_leafOf : ck_K := kc_241
abbrev kn_12_takes : ck_K := kc_242
abbrev kn_12_takesName_6 : ck_K := kc_243
abbrev kn_12_takesName_8 : ck_K := kc_244
abbrev kn_12_throwsIf : ck_K := kc_245
abbrev kn_12_man : ck_K := kc_246
abbrev kn_12_now : ck_K := kc_247
abbrev kn_12_part : ck_K := kc_248
abbrev kn_12_price : ck_K := kc_249
abbrev kn_12_wantOf : ck_K := kc_250
abbrev kn_12_prices : ck_K := kc_251
abbrev kn_12_scene : ck_K := kc_252
abbrev kn_12_sure : ck_K := kc_253
abbrev kn_12_suspects : ck_K := kc_254
abbrev kn_12_tells : ck_K := kc_255
abbrev kn_12_wants : ck_K := kc_256
abbrev kn_12_why : ck_K := kc_257
abbrev kn_15_fill_m : ck_K := kc_258
abbrev kn_15_fill_6 : ck_K := kc_259
abbrev kn_15_fill_8 : ck_K := kc_260
abbrev kn_15_fill_48 : ck_K := kc_261
abbrev kn_15_fill_12 : ck_K := kc_262
abbrev kn_1_castInto : ck_K := kc_263
abbrev kn_2_castUnlessWhy : ck_K := kc_264
abbrev kn_2_sendOff : ck_K := kc_265
abbrev kn_2_endAct : ck_K := kc_266
abbrev kn_2_begin : ck_K := kc_267
abbrev kn_2_copyFrom : ck_K := kc_268
abbrev kn_3_keep : ck_K := kc_269
abbrev kn_3_takeBack : ck_K := kc_270
abbrev kn_5_trade : ck_K := kc_271
abbrev kn_6_clear : ck_K := kc_272
abbrev kn_7_read : ck_K := kc_273
abbrev kn_11_best : ck_K := kc_274
abbrev kn_11_cast : ck_K := kc_275
abbrev kn_11_curtain : ck_K := kc_276
abbrev kn_11_playBest : ck_K := kc_277
abbrev kn_11_playDrawn : ck_K := kc_278
abbrev kn_11_drawn : ck_K := kc_279
abbrev kn_11_drop : ck_K := kc_280
abbrev kn_11_goOnByBest : ck_K := kc_281
abbrev kn_11_goesOn : ck_K := kc_282
abbrev kn_11_image : ck_K := kc_283
abbrev kn_11_joy : ck_K := kc_284
abbrev kn_11_odds : ck_K := kc_285
abbrev kn_11_play : ck_K := kc_286
abbrev kn_11_prices : ck_K := kc_287
abbrev kn_11_restore : ck_K := kc_288
abbrev kn_11_undo : ck_K := kc_289
abbrev kn_11_whisper : ck_K := kc_290
abbrev kn_12_sets : ck_K := kc_291
abbrev kn_12_pairs : ck_K := kc_292
abbrev kn_12_readScene : ck_K := kc_293
abbrev kn_12_line : ck_K := kc_294
abbrev kn_12_castsBy : ck_K := kc_295
abbrev kn_12_best : ck_K := kc_296
abbrev kn_12_castsBest : ck_K := kc_297
abbrev kn_12_bowed : ck_K := kc_298
abbrev kn_12_casts : ck_K := kc_299
abbrev kn_12_draws : ck_K := kc_300
abbrev kn_12_goesOnBy : ck_K := kc_301
abbrev kn_12_goesOn : ck_K := kc_302
abbrev kn_12_joy : ck_K := kc_303
abbrev kn_12_least : ck_K := kc_304
abbrev kn_12_odds : ck_K := kc_305
abbrev kn_12_surely : ck_K := kc_306
abbrev kn_12_whispers_307 : ck_K := kc_307
abbrev kn_0_judge : ck_K := kc_308
abbrev kn_0_read : ck_K := kc_309
abbrev kn_11_book_a : ck_K := kc_310
abbrev kn_11_book_b : ck_K := kc_311
abbrev kn_11_book_c : ck_K := kc_312
abbrev kn_12_keep : ck_K := kc_313
abbrev kn_12_book : ck_K := kc_314
abbrev kn_12_cast : ck_K := kc_315
abbrev kn_12_curtain : ck_K := kc_316
abbrev kn_12_drawn : ck_K := kc_317
abbrev kn_12_drop : ck_K := kc_318
abbrev kn_12_image : ck_K := kc_319
abbrev kn_12_isSaid : ck_K := kc_320
abbrev kn_12_play : ck_K := kc_321
abbrev kn_12_restore : ck_K := kc_322
abbrev kn_12_said : ck_K := kc_323
abbrev kn_12_sentence : ck_K := kc_324
abbrev kn_12_undo : ck_K := kc_325
abbrev kn_12_whisper : ck_K := kc_326
def ck_n0 : Nat := 258
def ck_n1 : Nat := 295
def ck_n2 : Nat := 308
def ck_n3 : Nat := 327
def ck_tabL : List ck_K := [kc_0, kc_1, kc_2, kc_3, kc_4, kc_5, kc_6, kc_7, kc_8, kc_9, kc_10, kc_11, kc_12, kc_13, kc_14, kc_15, kc_16, kc_17, kc_18, kc_19, kc_20, kc_21, kc_22, kc_23, kc_24, kc_25, kc_26, kc_27, kc_28, kc_29, kc_30, kc_31, kc_32, kc_33, kc_34, kc_35, kc_36, kc_37, kc_38, kc_39, kc_40, kc_41, kc_42, kc_43, kc_44, kc_45, kc_46, kc_47, kc_48, kc_49, kc_50, kc_51, kc_52, kc_53, kc_54, kc_55, kc_56, kc_57, kc_58, kc_59, kc_60, kc_61, kc_62, kc_63, kc_64, kc_65, kc_66, kc_67, kc_68, kc_69, kc_70, kc_71, kc_72, kc_73, kc_74, kc_75, kc_76, kc_77, kc_78, kc_79, kc_80, kc_81, kc_82, kc_83, kc_84, kc_85, kc_86, kc_87, kc_88, kc_89, kc_90, kc_91, kc_92, kc_93, kc_94, kc_95, kc_96, kc_97, kc_98, kc_99, kc_100, kc_101, kc_102, kc_103, kc_104, kc_105, kc_106, kc_107, kc_108, kc_109, kc_110, kc_111, kc_112, kc_113, kc_114, kc_115, kc_116, kc_117, kc_118, kc_119, kc_120, kc_121, kc_122, kc_123, kc_124, kc_125, kc_126, kc_127, kc_128, kc_129, kc_130, kc_131, kc_132, kc_133, kc_134, kc_135, kc_136, kc_137, kc_138, kc_139, kc_140, kc_141, kc_142, kc_143, kc_144, kc_145, kc_146, kc_147, kc_148, kc_149, kc_150, kc_151, kc_152, kc_153, kc_154, kc_155, kc_156, kc_157, kc_158, kc_159, kc_160, kc_161, kc_162, kc_163, kc_164, kc_165, kc_166, kc_167, kc_168, kc_169, kc_170, kc_171, kc_172, kc_173, kc_174, kc_175, kc_176, kc_177, kc_178, kc_179, kc_180, kc_181, kc_182, kc_183, kc_184, kc_185, kc_186, kc_187, kc_188, kc_189, kc_190, kc_191, kc_192, kc_193, kc_194, kc_195, kc_196, kc_197, kc_198, kc_199, kc_200, kc_201, kc_202, kc_203, kc_204, kc_205, kc_206, kc_207, kc_208, kc_209, kc_210, kc_211, kc_212, kc_213, kc_214, kc_215, kc_216, kc_217, kc_218, kc_219, kc_220, kc_221, kc_222, kc_223, kc_224, kc_225, kc_226, kc_227, kc_228, kc_229, kc_230, kc_231, kc_232, kc_233, kc_234, kc_235, kc_236, kc_237, kc_238, kc_239, kc_240, kc_241, kc_242, kc_243, kc_244, kc_245, kc_246, kc_247, kc_248, kc_249, kc_250, kc_251, kc_252, kc_253, kc_254, kc_255, kc_256, kc_257, kc_258, kc_259, kc_260, kc_261, kc_262, kc_263, kc_264, kc_265, kc_266, kc_267, kc_268, kc_269, kc_270, kc_271, kc_272, kc_273, kc_274, kc_275, kc_276, kc_277, kc_278, kc_279, kc_280, kc_281, kc_282, kc_283, kc_284, kc_285, kc_286, kc_287, kc_288, kc_289, kc_290, kc_291, kc_292, kc_293, kc_294, kc_295, kc_296, kc_297, kc_298, kc_299, kc_300, kc_301, kc_302, kc_303, kc_304, kc_305, kc_306, kc_307, kc_308, kc_309, kc_310, kc_311, kc_312, kc_313, kc_314, kc_315, kc_316, kc_317, kc_318, kc_319, kc_320, kc_321, kc_322, kc_323, kc_324, kc_325, kc_326]
def ck_tab (j : Nat) : ck_K := ck_tabL.getD j kc_0
def ck_LK0 : List (Nat × ck_En) := [(9, .inl (0, 0, 0)), (15, .inl (0, 1, 3)), (19, .inl (0, 2, 3)), (22, .inl (0, 3, 3)), (25, .inl (0, 4, 1)), (29, .inl (0, 5, 0)), (32, .inl (0, 6, 0)), (35, .inl (0, 7, 0)), (38, .inl (0, 8, 0)), (41, .inl (8, 4, 0)), (46, .inr (.inr (.inr (.inl (0, []))))), (50, .inr (.inr (.inr (.inl (0, [36]))))), (54, .inr (.inr (.inr (.inl (0, [56]))))), (58, .inr (.inr (.inr (.inl (0, [0]))))), (61, .inr (.inr (.inr (.inl (0, [54]))))), (65, .inr (.inr (.inr (.inl (1, [1]))))), (69, .inr (.inr (.inr (.inl (0, [35]))))), (72, .inl (6, 8, 3)), (78, .inl (6, 2, 0)), (80, .inr (.inr (.inr (.inl (0, [40, 41]))))), (84, .inr (.inr (.inr (.inl (0, [49]))))), (87, .inr (.inr (.inr (.inl (0, [53]))))), (90, .inl (6, 6, 3)), (93, .inl (6, 0, 0)), (96, .inr (.inr (.inr (.inl (0, [50, 51]))))), (99, .inl (6, 7, 3)), (102, .inl (6, 1, 0)), (105, .inl (2, 1, 0)), (110, .inr (.inr (.inr (.inl (0, []))))), (114, .inl (2, 0, 0)), (117, .inr (.inr (.inr (.inl (0, [264]))))), (121, .inr (.inr (.inr (.inl (0, [25]))))), (125, .inr (.inr (.inr (.inl (0, [34]))))), (129, .inr (.inr (.inr (.inl (0, [24]))))), (133, .inr (.inr (.inr (.inl (0, [266]))))), (137, .inr (.inr (.inr (.inl (0, [23]))))), (143, .inl (2, 8, 3)), (146, .inr (.inr (.inr (.inl (0, [263])))))]
def ck_LK1 : List (Nat × ck_En) := [(9, .inl (1, 0, 0)), (15, .inl (1, 1, 3)), (19, .inl (1, 2, 0)), (22, .inl (1, 3, 3)), (25, .inl (1, 4, 3)), (28, .inl (1, 5, 3)), (31, .inl (1, 6, 3)), (34, .inl (1, 7, 3)), (37, .inl (1, 8, 3)), (40, .inl (1, 9, 3)), (43, .inr (.inl (1000000))), (44, .inl (1, 10, 0)), (47, .inl (1, 11, 0)), (50, .inl (1, 12, 0)), (53, .inl (6, 2, 0)), (56, .inl (6, 15, 3)), (59, .inr (.inr (.inr (.inr ())))), (65, .inr (.inr (.inr (.inl (0, [14]))))), (71, .inl (2, 0, 0)), (74, .inr (.inr (.inr (.inl (0, [16]))))), (78, .inl (6, 0, 0)), (81, .inr (.inr (.inr (.inl (2, [2]))))), (85, .inr (.inr (.inr (.inl (1, [18]))))), (89, .inr (.inr (.inr (.inl (0, [19]))))), (93, .inr (.inr (.inr (.inl (0, [17]))))), (97, .inl (2, 7, 0)), (100, .inr (.inr (.inr (.inl (0, [20]))))), (104, .inr (.inr (.inr (.inl (0, [21, 22]))))), (107, .inr (.inr (.inr (.inl (0, [13]))))), (111, .inr (.inr (.inr (.inl (1, [258, 259, 260, 261, 262]))))), (117, .inr (.inr (.inr (.inl (0, [32]))))), (120, .inr (.inr (.inr (.inl (0, [15]))))), (123, .inr (.inr (.inr (.inl (1, [58]))))), (128, .inr (.inr (.inr (.inl (0, [4]))))), (131, .inr (.inr (.inr (.inl (0, [6, 7, 8, 9, 10, 11, 12]))))), (135, .inr (.inl (2000000))), (136, .inr (.inr (.inr (.inl (1, [3]))))), (141, .inr (.inr (.inr (.inl (0, [5]))))), (144, .inr (.inr (.inr (.inl (0, [67]))))), (148, .inr (.inr (.inr (.inl (0, [60, 61, 62, 63, 64, 65, 66]))))), (152, .inr (.inr (.inr (.inl (0, [59]))))), (155, .inr (.inr (.inr (.inl (0, [57]))))), (158, .inr (.inr (.inr (.inl (0, [72])))))]
def ck_LK2 : List (Nat × ck_En) := [(9, .inl (2, 0, 0)), (15, .inl (2, 1, 0)), (18, .inl (2, 2, 0)), (21, .inl (2, 3, 0)), (24, .inl (2, 4, 0)), (27, .inl (2, 5, 0)), (30, .inl (2, 6, 0)), (33, .inl (2, 7, 0)), (36, .inl (2, 8, 3)), (40, .inl (2, 9, 3)), (43, .inl (2, 10, 3)), (46, .inl (2, 11, 3)), (49, .inl (2, 12, 3)), (52, .inr (.inr (.inr (.inl (1, [258, 259, 260, 261, 262]))))), (58, .inr (.inr (.inr (.inr ())))), (64, .inl (6, 3, 0)), (69, .inr (.inr (.inr (.inl (0, [17]))))), (73, .inr (.inr (.inr (.inl (0, [27]))))), (77, .inr (.inr (.inr (.inl (0, [26]))))), (81, .inr (.inr (.inr (.inl (2, [2]))))), (85, .inr (.inr (.inr (.inl (0, [28]))))), (88, .inr (.inr (.inr (.inl (0, [14]))))), (92, .inr (.inr (.inr (.inl (0, [16]))))), (95, .inl (6, 14, 3)), (98, .inl (6, 12, 3)), (101, .inl (6, 9, 3)), (104, .inl (6, 5, 1)), (108, .inr (.inr (.inr (.inl (0, [15]))))), (111, .inl (6, 10, 3)), (114, .inr (.inr (.inr (.inl (0, [19]))))), (118, .inl (6, 0, 0)), (121, .inl (6, 15, 3)), (124, .inl (6, 2, 0)), (127, .inr (.inr (.inr (.inl (0, [75]))))), (131, .inr (.inr (.inr (.inl (0, [33]))))), (135, .inl (6, 13, 3)), (138, .inr (.inr (.inr (.inl (0, [29]))))), (142, .inr (.inr (.inr (.inl (0, [30]))))), (145, .inr (.inr (.inr (.inl (0, [21, 22]))))), (148, .inr (.inr (.inr (.inl (0, [32]))))), (151, .inr (.inr (.inr (.inl (0, [265]))))), (154, .inr (.inr (.inr (.inl (1, [31]))))), (159, .inl (6, 4, 0)), (162, .inl (6, 17, 3)), (165, .inl (6, 18, 3)), (168, .inl (6, 19, 3))]
def ck_LK3 : List (Nat × ck_En) := [(11, .inl (3, 0, 3)), (17, .inl (3, 1, 0)), (21, .inl (3, 2, 0)), (25, .inr (.inr (.inr (.inl (0, [268])))))]
def ck_LK4 : List (Nat × ck_En) := []
def ck_LK5 : List (Nat × ck_En) := [(9, .inl (5, 0, 1)), (15, .inl (5, 1, 3)), (19, .inl (5, 2, 3)), (22, .inr (.inr (.inr (.inl (0, [20]))))), (28, .inr (.inr (.inr (.inl (1, [258, 259, 260, 261, 262]))))), (34, .inl (6, 2, 0)), (40, .inr (.inr (.inr (.inl (0, [79]))))), (44, .inr (.inr (.inr (.inl (0, [78]))))), (48, .inl (1, 2, 0)), (51, .inl (1, 3, 3)), (54, .inr (.inr (.inr (.inl (0, [21, 22]))))), (58, .inl (1, 4, 3)), (61, .inr (.inr (.inr (.inl (2, [2]))))), (65, .inl (6, 0, 0))]
def ck_LK6 : List (Nat × ck_En) := [(9, .inl (6, 0, 0)), (15, .inl (6, 1, 0)), (18, .inl (6, 2, 0)), (21, .inl (6, 3, 0)), (24, .inl (6, 4, 0)), (27, .inl (6, 5, 1)), (31, .inl (6, 6, 3)), (35, .inl (6, 7, 3)), (38, .inl (6, 8, 3)), (41, .inl (6, 9, 3)), (45, .inl (6, 10, 3)), (48, .inl (6, 11, 3)), (51, .inl (6, 12, 3)), (54, .inl (6, 13, 3)), (57, .inl (6, 14, 3)), (60, .inl (6, 15, 3)), (63, .inl (6, 16, 3)), (66, .inl (6, 17, 3)), (69, .inl (6, 18, 3)), (72, .inl (6, 19, 3)), (75, .inr (.inr (.inr (.inl (1, [258, 259, 260, 261, 262]))))), (81, .inr (.inr (.inr (.inr ())))), (87, .inr (.inr (.inr (.inl (1, [37, 38, 39]))))), (93, .inr (.inr (.inr (.inl (2, [2]))))), (97, .inr (.inr (.inr (.inl (0, [74]))))), (101, .inr (.inr (.inr (.inl (1, [58])))))]
def ck_LK7 : List (Nat × ck_En) := [(12, .inl (7, 0, 3)), (18, .inr (.inr (.inr (.inl (0, [272]))))), (21, .inl (8, 4, 0)), (27, .inr (.inr (.inr (.inl (0, [108]))))), (31, .inr (.inr (.inr (.inl (0, [36]))))), (35, .inr (.inr (.inr (.inl (0, [56]))))), (39, .inr (.inr (.inr (.inl (0, [54]))))), (43, .inr (.inr (.inr (.inl (0, [104]))))), (46, .inr (.inr (.inr (.inl (0, [97]))))), (49, .inr (.inr (.inr (.inl (0, [94]))))), (52, .inr (.inr (.inr (.inl (0, [101]))))), (55, .inr (.inr (.inr (.inl (0, [92]))))), (58, .inr (.inr (.inr (.inl (0, [106]))))), (61, .inr (.inr (.inr (.inl (0, [107]))))), (64, .inr (.inr (.inr (.inl (0, [102]))))), (67, .inr (.inr (.inr (.inl (0, [100]))))), (70, .inr (.inr (.inr (.inl (0, [103]))))), (73, .inr (.inr (.inr (.inl (0, [98]))))), (76, .inr (.inr (.inr (.inl (0, [105]))))), (79, .inr (.inr (.inr (.inl (0, [35]))))), (82, .inr (.inr (.inr (.inl (0, [49]))))), (85, .inr (.inr (.inr (.inl (0, [0]))))), (88, .inl (8, 8, 2)), (92, .inr (.inr (.inr (.inl (0, [86]))))), (96, .inr (.inr (.inr (.inl (2, [2]))))), (100, .inl (6, 0, 0)), (103, .inr (.inr (.inr (.inl (1, [89, 90, 91]))))), (107, .inl (6, 6, 3)), (111, .inr (.inr (.inr (.inl (0, [95, 96]))))), (115, .inl (6, 9, 3)), (119, .inr (.inr (.inr (.inl (0, [99]))))), (123, .inl (6, 1, 0)), (126, .inl (6, 7, 3)), (129, .inr (.inr (.inr (.inl (0, [50, 51]))))), (133, .inr (.inr (.inr (.inl (0, [40, 41]))))), (136, .inl (6, 11, 3)), (139, .inr (.inr (.inr (.inl (1, [93]))))), (143, .inl (6, 2, 0)), (146, .inl (6, 8, 3)), (149, .inl (6, 12, 3)), (152, .inl (6, 13, 3)), (155, .inl (6, 3, 0)), (158, .inl (6, 4, 0)), (161, .inl (6, 17, 3)), (164, .inr (.inr (.inr (.inl (0, [55]))))), (168, .inl (6, 18, 3)), (171, .inl (6, 19, 3)), (174, .inl (6, 10, 3)), (177, .inr (.inr (.inr (.inl (0, [21, 22]))))), (180, .inl (6, 16, 3)), (183, .inl (6, 14, 3)), (186, .inl (6, 15, 3)), (189, .inl (6, 5, 1))]
def ck_LK8 : List (Nat × ck_En) := [(12, .inl (8, 1, 3)), (18, .inl (8, 2, 0)), (22, .inl (8, 3, 0)), (25, .inl (8, 4, 0)), (28, .inl (8, 5, 0)), (31, .inl (8, 6, 0)), (34, .inl (8, 7, 0)), (37, .inl (8, 8, 2)), (41, .inl (8, 9, 0)), (44, .inl (8, 10, 0)), (53, .inl (8, 0, 3)), (67, .inr (.inr (.inr (.inl (1, [46]))))), (71, .inr (.inr (.inl ()))), (73, .inr (.inr (.inr (.inl (0, [49]))))), (76, .inl (10, 1, 0)), (78, .inr (.inr (.inr (.inl (0, [47]))))), (82, .inr (.inr (.inr (.inl (1, [42]))))), (86, .inr (.inr (.inr (.inl (1, [44]))))), (89, .inr (.inr (.inr (.inl (1, [43]))))), (92, .inr (.inr (.inr (.inl (0, [48]))))), (95, .inr (.inr (.inr (.inl (1, [45]))))), (98, .inr (.inr (.inr (.inl (1, [37, 38, 39]))))), (102, .inr (.inr (.inr (.inl (0, [0]))))), (106, .inr (.inr (.inr (.inl (0, [35]))))), (110, .inr (.inr (.inr (.inl (0, [40, 41]))))), (114, .inr (.inr (.inr (.inl (0, [55]))))), (117, .inr (.inr (.inr (.inl (0, [52])))))]
def ck_LK9 : List (Nat × ck_En) := [(9, .inl (9, 0, 0)), (15, .inl (9, 1, 0)), (18, .inl (9, 2, 3)), (22, .inl (9, 3, 3)), (25, .inl (9, 4, 3)), (28, .inl (9, 5, 3)), (31, .inr (.inr (.inr (.inr ())))), (37, .inr (.inr (.inr (.inl (0, [111, 112]))))), (40, .inr (.inr (.inr (.inl (0, [122, 125, 128, 131, 134, 137, 140, 143, 146]))))), (44, .inr (.inr (.inr (.inl (0, [36]))))), (50, .inl (8, 4, 0)), (53, .inr (.inr (.inr (.inl (0, [35]))))), (57, .inr (.inr (.inr (.inl (0, [121, 124, 127, 130, 133, 136, 139, 142, 145]))))), (60, .inr (.inr (.inr (.inl (0, [52]))))), (64, .inr (.inr (.inr (.inl (0, [49]))))), (67, .inr (.inr (.inr (.inl (0, [110]))))), (71, .inr (.inr (.inr (.inl (0, [120, 123, 126, 129, 132, 135, 138, 141, 144]))))), (74, .inr (.inr (.inr (.inl (0, [54]))))), (78, .inr (.inr (.inr (.inl (0, [55]))))), (81, .inr (.inr (.inr (.inl (0, [56]))))), (84, .inr (.inr (.inr (.inl (0, [119]))))), (87, .inl (6, 7, 3)), (93, .inl (6, 1, 0)), (96, .inr (.inr (.inr (.inl (0, [50, 51]))))), (100, .inl (8, 6, 0)), (103, .inr (.inr (.inr (.inl (0, [99]))))), (107, .inr (.inr (.inr (.inl (0, [67]))))), (110, .inr (.inr (.inr (.inl (0, [117]))))), (114, .inr (.inr (.inr (.inl (0, [33]))))), (119, .inl (2, 6, 0)), (122, .inr (.inr (.inr (.inl (0, [76]))))), (126, .inl (6, 2, 0)), (129, .inr (.inr (.inr (.inl (0, [116]))))), (133, .inl (2, 10, 3)), (136, .inr (.inr (.inr (.inl (2, [2]))))), (140, .inl (6, 12, 3)), (143, .inr (.inr (.inr (.inl (0, [113]))))), (146, .inl (2, 11, 3)), (149, .inl (2, 12, 3))]
def ck_LK10 : List (Nat × ck_En) := [(9, .inl (10, 0, 3)), (15, .inl (10, 1, 0)), (19, .inr (.inr (.inr (.inl (0, [148, 149])))))]
def ck_LK11 : List (Nat × ck_En) := [(10, .inl (11, 0, 3)), (19, .inl (11, 1, 3)), (26, .inl (11, 2, 3)), (33, .inl (11, 3, 3)), (37, .inl (11, 4, 3)), (43, .inl (11, 5, 3)), (50, .inl (11, 6, 3)), (54, .inl (11, 7, 3)), (60, .inl (11, 8, 3)), (67, .inl (11, 9, 3)), (74, .inl (11, 10, 3)), (80, .inl (11, 11, 3)), (84, .inl (11, 12, 3)), (88, .inl (11, 13, 0)), (99, .inl (8, 1, 3)), (103, .inr (.inr (.inr (.inl (0, [148, 149]))))), (109, .inr (.inr (.inr (.inl (0, [150]))))), (113, .inl (10, 1, 0)), (116, .inr (.inr (.inr (.inl (0, [109]))))), (119, .inr (.inr (.inr (.inl (0, [273]))))), (123, .inl (8, 9, 0)), (126, .inl (8, 10, 0)), (129, .inl (7, 0, 3)), (132, .inr (.inr (.inr (.inl (0, [81, 82]))))), (136, .inr (.inr (.inr (.inl (0, [267]))))), (139, .inr (.inr (.inr (.inl (0, [111, 112]))))), (142, .inr (.inr (.inr (.inl (0, [77]))))), (145, .inr (.inr (.inr (.inl (0, [87]))))), (148, .inl (6, 9, 3)), (151, .inl (6, 10, 3)), (154, .inl (2, 8, 3)), (157, .inl (2, 9, 3)), (160, .inr (.inr (.inr (.inl (0, [80]))))), (164, .inr (.inr (.inr (.inl (0, [85]))))), (179, .inl (2, 10, 3)), (182, .inl (2, 11, 3)), (185, .inl (2, 12, 3)), (191, .inr (.inr (.inr (.inl (1, [2]))))), (195, .inl (2, 7, 0)), (198, .inl (6, 3, 0)), (201, .inr (.inr (.inr (.inl (0, [88]))))), (204, .inr (.inr (.inr (.inl (0, [16]))))), (207, .inr (.inr (.inr (.inl (0, [83]))))), (210, .inl (6, 4, 0)), (213, .inl (6, 17, 3)), (216, .inl (6, 18, 3)), (219, .inl (6, 19, 3)), (222, .inl (2, 0, 0)), (225, .inl (2, 1, 0)), (228, .inl (2, 2, 0)), (231, .inr (.inr (.inr (.inl (0, [33]))))), (235, .inl (2, 3, 0)), (238, .inl (2, 4, 0)), (241, .inl (2, 5, 0)), (244, .inr (.inr (.inr (.inl (0, [28]))))), (248, .inr (.inr (.inr (.inl (0, [269]))))), (252, .inr (.inr (.inr (.inl (0, [24]))))), (256, .inr (.inr (.inr (.inl (0, [266]))))), (259, .inr (.inr (.inr (.inl (0, [84]))))), (262, .inr (.inr (.inr (.inl (0, [25]))))), (266, .inr (.inr (.inr (.inl (0, [34]))))), (270, .inr (.inr (.inr (.inl (0, [270]))))), (274, .inl (3, 2, 0)), (277, .inr (.inr (.inr (.inl (0, [23]))))), (281, .inr (.inr (.inr (.inl (0, [263]))))), (285, .inr (.inr (.inr (.inl (0, [70]))))), (288, .inr (.inr (.inr (.inl (0, [67]))))), (291, .inr (.inr (.inr (.inl (0, [68]))))), (295, .inr (.inr (.inr (.inl (0, [14]))))), (298, .inr (.inr (.inr (.inl (1, [58]))))), (303, .inl (1, 12, 0)), (306, .inr (.inr (.inr (.inl (0, [73]))))), (310, .inr (.inr (.inr (.inl (0, [71]))))), (313, .inr (.inr (.inr (.inl (0, [69]))))), (316, .inr (.inr (.inr (.inl (0, [74]))))), (319, .inr (.inr (.inr (.inl (0, [76]))))), (323, .inr (.inr (.inr (.inl (0, [75]))))), (326, .inr (.inr (.inr (.inl (0, [271]))))), (330, .inl (5, 0, 1)), (333, .inl (5, 1, 3)), (336, .inl (5, 2, 3)), (339, .inr (.inr (.inr (.inl (0, [281]))))), (342, .inr (.inr (.inr (.inl (0, [159]))))), (346, .inl (6, 2, 0)), (349, .inr (.inr (.inr (.inl (0, [278]))))), (353, .inr (.inr (.inr (.inl (0, [268]))))), (355, .inr (.inr (.inr (.inl (0, [309]))))), (358, .inr (.inr (.inr (.inl (0, [308]))))), (361, .inl (0, 4, 1)), (364, .inl (0, 5, 0)), (367, .inl (0, 6, 0)), (370, .inl (0, 7, 0)), (373, .inl (0, 8, 0)), (376, .inr (.inr (.inr (.inl (0, [147]))))), (377, .inr (.inr (.inr (.inl (0, [114, 115]))))), (380, .inl (9, 0, 0)), (383, .inr (.inr (.inr (.inl (0, [118]))))), (386, .inl (4, 1, 3)), (387, .inl (4, 2, 3)), (388, .inl (4, 3, 3)), (389, .inl (4, 0, 1)), (392, .inl (6, 0, 0)), (395, .inl (6, 1, 0)), (398, .inl (6, 5, 1)), (401, .inr (.inr (.inr (.inl (0, [277]))))), (404, .inr (.inr (.inr (.inl (0, [265]))))), (407, .inr (.inl (1103515245)))]
def ck_LK12 : List (Nat × ck_En) := [(1, .inl (12, 0, 0)), (7, .inl (12, 2, 0)), (10, .inr (.inr (.inr (.inl (0, [234]))))), (14, .inl (12, 1, 3)), (18, .inl (12, 3, 0)), (21, .inl (12, 4, 0)), (24, .inl (12, 5, 0)), (33, .inl (12, 6, 3)), (37, .inl (12, 7, 3)), (40, .inl (12, 8, 3)), (43, .inl (12, 9, 3)), (47, .inl (12, 10, 3)), (50, .inl (12, 20, 3)), (53, .inl (12, 21, 3)), (56, .inl (12, 23, 3)), (59, .inl (12, 24, 3)), (62, .inl (12, 25, 3)), (65, .inl (12, 32, 3)), (68, .inl (12, 33, 0)), (71, .inl (12, 34, 3)), (74, .inl (12, 35, 3)), (77, .inl (12, 36, 3)), (80, .inl (12, 37, 0)), (83, .inl (12, 42, 3)), (86, .inl (12, 44, 3)), (89, .inl (12, 50, 3)), (93, .inl (12, 51, 3)), (96, .inl (12, 52, 3)), (99, .inl (12, 53, 3)), (102, .inr (.inr (.inl ()))), (104, .inr (.inr (.inl ()))), (106, .inr (.inr (.inl ()))), (108, .inr (.inr (.inl ()))), (110, .inr (.inr (.inl ()))), (112, .inr (.inr (.inl ()))), (114, .inr (.inr (.inl ()))), (116, .inr (.inr (.inl ()))), (118, .inr (.inr (.inl ()))), (120, .inr (.inr (.inl ()))), (122, .inr (.inr (.inl ()))), (124, .inr (.inr (.inl ()))), (126, .inr (.inr (.inl ()))), (128, .inr (.inr (.inl ()))), (130, .inr (.inr (.inl ()))), (132, .inr (.inr (.inl ()))), (134, .inr (.inr (.inl ()))), (136, .inr (.inr (.inl ()))), (138, .inr (.inr (.inl ()))), (140, .inr (.inr (.inl ()))), (142, .inr (.inr (.inl ()))), (144, .inr (.inr (.inl ()))), (146, .inr (.inr (.inl ()))), (148, .inr (.inr (.inl ()))), (150, .inr (.inr (.inl ()))), (152, .inr (.inr (.inl ()))), (154, .inr (.inr (.inl ()))), (156, .inr (.inr (.inr (.inl (0, [194]))))), (160, .inl (12, 12, 0)), (163, .inl (12, 13, 0)), (166, .inl (12, 11, 0)), (169, .inr (.inr (.inr (.inl (1, [193]))))), (173, .inr (.inr (.inr (.inl (1, [192]))))), (176, .inl (12, 14, 0)), (179, .inl (12, 17, 2)), (183, .inl (12, 15, 0)), (186, .inl (12, 16, 0)), (189, .inr (.inr (.inr (.inl (0, [196]))))), (192, .inr (.inr (.inr (.inl (0, [191]))))), (195, .inr (.inr (.inr (.inl (0, [195]))))), (198, .inr (.inr (.inr (.inl (1, [178, 179, 180, 181, 182, 183, 184, 185]))))), (202, .inl (12, 18, 0)), (205, .inr (.inr (.inr (.inl (0, [209]))))), (209, .inr (.inr (.inr (.inl (0, [207, 208]))))), (213, .inr (.inr (.inr (.inl (0, [210, 211]))))), (217, .inr (.inr (.inr (.inl (1, [188]))))), (220, .inr (.inr (.inr (.inl (0, [197]))))), (224, .inr (.inr (.inr (.inl (0, [236]))))), (227, .inr (.inr (.inr (.inl (0, [242]))))), (230, .inr (.inr (.inr (.inl (0, [293]))))), (233, .inr (.inr (.inr (.inl (0, [291]))))), (236, .inr (.inr (.inr (.inl (0, [292]))))), (239, .inr (.inr (.inr (.inl (0, [243, 244]))))), (242, .inr (.inr (.inr (.inl (0, [224]))))), (245, .inl (12, 19, 0)), (248, .inr (.inr (.inr (.inl (0, [294]))))), (251, .inr (.inr (.inr (.inl (0, [223]))))), (254, .inl (12, 22, 0)), (257, .inr (.inr (.inr (.inl (0, [227]))))), (260, .inr (.inr (.inr (.inl (0, [186]))))), (264, .inr (.inr (.inr (.inl (0, [212]))))), (267, .inr (.inr (.inr (.inl (0, [214]))))), (270, .inr (.inr (.inr (.inl (0, [245]))))), (274, .inr (.inr (.inr (.inl (0, [177]))))), (277, .inr (.inr (.inr (.inl (0, [217]))))), (280, .inr (.inr (.inr (.inl (0, [202]))))), (283, .inr (.inr (.inr (.inl (0, [203]))))), (286, .inr (.inr (.inr (.inl (0, [199]))))), (289, .inr (.inr (.inr (.inl (0, [189]))))), (292, .inr (.inr (.inr (.inl (0, [222]))))), (295, .inr (.inr (.inr (.inl (0, [313]))))), (298, .inr (.inr (.inr (.inl (1, [200]))))), (301, .inr (.inr (.inr (.inl (0, [218]))))), (304, .inr (.inr (.inr (.inl (0, [219]))))), (308, .inr (.inr (.inr (.inl (0, [216]))))), (311, .inr (.inr (.inr (.inl (0, [213]))))), (314, .inr (.inr (.inr (.inl (0, [220]))))), (317, .inr (.inr (.inr (.inl (0, [215]))))), (320, .inr (.inr (.inr (.inl (0, [221]))))), (323, .inr (.inr (.inr (.inl (0, [204]))))), (326, .inr (.inr (.inr (.inl (1, [198]))))), (329, .inl (12, 26, 0)), (332, .inl (12, 31, 0)), (335, .inl (12, 28, 0)), (338, .inl (12, 29, 0)), (341, .inl (12, 30, 0)), (344, .inl (12, 27, 0)), (347, .inr (.inr (.inr (.inl (0, [201]))))), (350, .inr (.inr (.inr (.inl (0, [205]))))), (354, .inr (.inr (.inr (.inl (0, [295]))))), (358, .inr (.inr (.inr (.inl (0, [237]))))), (361, .inr (.inr (.inr (.inl (0, [238]))))), (364, .inr (.inr (.inr (.inl (0, [250]))))), (367, .inl (12, 38, 0)), (370, .inr (.inr (.inr (.inl (0, [225]))))), (373, .inr (.inr (.inr (.inl (0, [297]))))), (376, .inl (12, 39, 0)), (379, .inr (.inr (.inr (.inl (0, [190]))))), (382, .inr (.inr (.inr (.inl (0, [301]))))), (385, .inr (.inr (.inr (.inl (0, [232]))))), (388, .inl (12, 40, 0)), (391, .inr (.inl (1103515245))), (392, .inr (.inr (.inr (.inl (0, [229]))))), (395, .inr (.inr (.inr (.inl (0, [300]))))), (398, .inl (12, 41, 0)), (401, .inr (.inr (.inr (.inl (0, []))))), (404, .inr (.inr (.inr (.inl (0, []))))), (407, .inl (12, 43, 1)), (411, .inl (12, 45, 0)), (414, .inl (12, 47, 0)), (417, .inr (.inr (.inr (.inl (0, []))))), (421, .inl (12, 48, 0)), (424, .inr (.inr (.inr (.inl (0, [241]))))), (427, .inl (12, 46, 0)), (430, .inl (12, 49, 1)), (433, .inr (.inr (.inr (.inl (0, []))))), (436, .inr (.inr (.inr (.inl (0, []))))), (439, .inr (.inr (.inr (.inl (0, []))))), (442, .inr (.inr (.inr (.inl (0, []))))), (445, .inr (.inr (.inr (.inl (0, [239]))))), (449, .inr (.inr (.inr (.inl (0, [320])))))]
def ck_LK13 : List (Nat × ck_En) := [(265, .inr (.inl (1431655765))), (266, .inr (.inl (858993459))), (267, .inr (.inl (252645135)))]
def ck_LK14 : List (Nat × ck_En) := []
def ck_LK15 : List (Nat × ck_En) := []
def ck_LKT : List (List (Nat × ck_En)) := [ck_LK0, ck_LK1, ck_LK2, ck_LK3, ck_LK4, ck_LK5, ck_LK6, ck_LK7, ck_LK8, ck_LK9, ck_LK10, ck_LK11, ck_LK12, ck_LK13, ck_LK14, ck_LK15]
def ck_LK (o ix : Nat) : Option ck_En := match ck_LKT[o]? with
  | some t => (t.find? (fun q => q.1 == ix)).map (fun q => q.2)
  | none => none
end
section
/-! BY HAND, 4: facts of the tables; the copies of the evening. -/
theorem pv_inj : ∀ (i j : Nat) (q : Nat × Nat), ck_pvs0[i]? = some q → ck_pvs0[j]? = some q → i = j := by
  have key : (List.range 25).all (fun i => (List.range 25).all (fun j => decide (ck_pvs0[i]? ≠ ck_pvs0[j]?) || decide (i = j))) = true := by decide +kernel
  intro i j q hi hj
  have h1 : i < 25 := (List.getElem?_eq_some_iff.mp hi).1
  have h2 : j < 25 := (List.getElem?_eq_some_iff.mp hj).1
  have h3 := List.all_eq_true.mp (List.all_eq_true.mp key i (List.mem_range.mpr h1)) j (List.mem_range.mpr h2)
  simp only [Bool.or_eq_true, decide_eq_true_eq] at h3
  rcases h3 with h3 | h3
  · exact absurd (hi.trans hj.symm) h3
  · exact h3
def ck_un (ty : Nat → Option Nat) : Prop := ∀ t, t ∈ ck_uns → ∀ a a', ty a = some t → ty a' = some t → a' = a
theorem sg_BS : ∀ i, i < 46 → ck_seg [(1, 0, 6), (6, -2147483648, 2147483647), (14, 0, 6), (40, -2147483648, 2147483647), (46, 0, 8)] i = ck_seg [(2, 0, 6), (3, 0, 8), (4, 0, 6), (5, 0, 12), (140, -2147483648, 2147483647), (141, 0, 6), (146, -2147483648, 2147483647), (154, 0, 6), (180, -2147483648, 2147483647), (186, 0, 8), (187, 0, 45), (367, -2147483648, 2147483647)] (140 + i) := by decide
theorem sg_US : ∀ j, j < 8 → ∀ i, i < 46 → ck_seg [(1, 0, 6), (6, -2147483648, 2147483647), (14, 0, 6), (40, -2147483648, 2147483647), (46, 0, 8), (47, 0, 6), (52, -2147483648, 2147483647), (60, 0, 6), (86, -2147483648, 2147483647), (92, 0, 8), (93, 0, 6), (98, -2147483648, 2147483647), (106, 0, 6), (132, -2147483648, 2147483647), (138, 0, 8), (139, 0, 6), (144, -2147483648, 2147483647), (152, 0, 6), (178, -2147483648, 2147483647), (184, 0, 8), (185, 0, 6), (190, -2147483648, 2147483647), (198, 0, 6), (224, -2147483648, 2147483647), (230, 0, 8), (231, 0, 6), (236, -2147483648, 2147483647), (244, 0, 6), (270, -2147483648, 2147483647), (276, 0, 8), (277, 0, 6), (282, -2147483648, 2147483647), (290, 0, 6), (316, -2147483648, 2147483647), (322, 0, 8), (323, 0, 6), (328, -2147483648, 2147483647), (336, 0, 6), (362, -2147483648, 2147483647), (368, 0, 8)] (46 * j + i) = ck_seg [(2, 0, 6), (3, 0, 8), (4, 0, 6), (5, 0, 12), (140, -2147483648, 2147483647), (141, 0, 6), (146, -2147483648, 2147483647), (154, 0, 6), (180, -2147483648, 2147483647), (186, 0, 8), (187, 0, 45), (367, -2147483648, 2147483647)] (140 + i) := by decide
section H22
variable {l : Launch} {D : va_G} {cys : Nat → ClassId} {ty : Nat → Option Nat} {Ex : va_W → Prop}
theorem dX12_tries_0 : decode cX12_tries 0 = .ok (.iconst 0, 1) := by decide +kernel
theorem dX12_tries_1 : decode cX12_tries 1 = .ok (.istore_n 1, 1) := by decide +kernel
theorem dX12_tries_2 : decode cX12_tries 2 = .ok (.iload_n 1, 1) := by decide +kernel
theorem dX12_tries_3 : decode cX12_tries 3 = .ok (.bipush 46, 2) := by decide +kernel
theorem dX12_tries_5 : decode cX12_tries 5 = .ok (.if_icmp .ge 25, 3) := by decide +kernel
theorem dX12_tries_8 : decode cX12_tries 8 = .ok (.aload_n 0, 1) := by decide +kernel
theorem dX12_tries_9 : decode cX12_tries 9 = .ok (.getfield 53, 3) := by decide +kernel
theorem dX12_tries_12 : decode cX12_tries 12 = .ok (.iload_n 1, 1) := by decide +kernel
theorem dX12_tries_13 : decode cX12_tries 13 = .ok (.aload_n 0, 1) := by decide +kernel
theorem dX12_tries_14 : decode cX12_tries 14 = .ok (.getfield 33, 3) := by decide +kernel
theorem dX12_tries_17 : decode cX12_tries 17 = .ok (.sipush 140, 3) := by decide +kernel
theorem dX12_tries_20 : decode cX12_tries 20 = .ok (.iload_n 1, 1) := by decide +kernel
theorem dX12_tries_21 : decode cX12_tries 21 = .ok (.iadd, 1) := by decide +kernel
theorem dX12_tries_22 : decode cX12_tries 22 = .ok (.iaload, 1) := by decide +kernel
theorem dX12_tries_23 : decode cX12_tries 23 = .ok (.iastore, 1) := by decide +kernel
theorem dX12_tries_24 : decode cX12_tries 24 = .ok (.iinc 1 1, 3) := by decide +kernel
theorem dX12_tries_27 : decode cX12_tries 27 = .ok (.goto (-25), 3) := by decide +kernel
theorem dX12_tries_30 : decode cX12_tries 30 = .ok (.return_, 1) := by decide +kernel
set_option maxRecDepth 100000 in
theorem hk_12_tries (hF : ck_LKf ck_LK) (hM : ck_LKm ck_tags ck_LK ck_tab) (hU : ck_uq ty ck_pvs0) (hun : ck_un ty) (hX : ck_ExP ty ck_protA Ex) (hH : ∀ j, j < 225 → ck_Holds l D cys ty ck_tags ck_pvs0 Ex (ck_tab j)) : ck_Holds l D cys ty ck_tags ck_pvs0 Ex (ck_tab 225) := by
  refine cm_enter (by decide +kernel) (by decide +kernel) (by decide +kernel) ?_
  intro vs pvv0 p e s m below meth c ls ha hp B hl hW
  have hx := B.1
  have hb : c.code = cX12_tries := B.2.1
  have hI := pv_inj
  obtain ⟨_, rfl, a0, rfl, t0⟩ := cm_a1 ha
  have hl : lv_has ls 2 [(0, .ref a0)] := hl
  have loop : ∀ (n : Nat) (i : Int32) (pvv : Nat → Int32) (ls : Array Slot) (H : Heap) (locs : List Loc), 0 ≤ i.toInt → i.toInt ≤ 46 → 46 - i.toInt < n → (∀ j, j ≠ 18 → pvv j = pvv0 j) → (1 ≤ i.toInt → pvv 18 = pvv0 16) → lv_has ls 2 [(1, .int i), (0, .ref a0)] → ck_Wo D cys ty ck_tags ck_pvs0 Ex pvv H → va_S (ck_own ty) s.heap H locs → W p l e (ck_rm (ck_tab 225)) s m [Value.ref a0].toArray below meth c H locs 0 0 (MQ below (ck_Qc D cys ty ck_tags ck_pvs0 Ex (ck_tab 225) [Value.ref a0] pvv0) [Value.ref a0].toArray s 0 0 (ck_own ty)) (F0 m 2 ls []) := by
    intro n
    induction n with
    | zero => intro i pvv ls H locs h1 h2 h3; omega
    | succ n ih =>
      intro i pvv ls H locs i1 i2 i3 hq hb1 hl hW hS
      refine lv_iload_n hx hb dX12_tries_2 rfl (lv_at hl 0 rfl) ?_
      refine hr_bp hx hb dX12_tries_3 (by decide) (by decide) (fun z3 hz3 => ?_)
      refine hr_ge (tgt := 30) hx hb dX12_tries_5 (by decide) (fun h5 => ?_) (fun h5 => ?_)
      · have e0 := hb1 (by omega)
        have r0 := hr_pv hp 16 (lo := 0) (hi := 6) rfl
        refine cm_vret B hb rfl ⟨_, List.mem_cons_self, True.intro, (fun q h => nomatch h), ?_⟩ hW hS dX12_tries_30
        refine hr_set1 (P := pU) (f := pvv0) (j := 18) ?_ (hr_vd (q := 16) (lo := 0) (hi := 6) (a := 0) (b := 0) (by rw [e0]; exact r0.1) (by rw [e0]; exact r0.2) (by rw [e0]; omega) (by rw [e0]; omega)) hq
        exact hr_wk (hr_self hp) (by decide +kernel)
      · refine lv_aload_n hx hb dX12_tries_8 rfl (lv_at hl 1 rfl) ?_
        refine hr_getR B hF hb hW (ci := 12) (j := 21) (cd := 3) t0 rfl (isF (by decide +kernel)) rfl dX12_tries_9 (fun az9 tz9 xz9 => ?_)
        refine lv_iload_n hx hb dX12_tries_12 rfl (lv_at hl 0 rfl) ?_
        refine lv_aload_n hx hb dX12_tries_13 rfl (lv_at hl 1 rfl) ?_
        refine hr_getR B hF hb hW (ci := 12) (j := 6) (cd := 3) t0 rfl (isF (by decide +kernel)) rfl dX12_tries_14 (fun az14 tz14 xz14 => ?_)
        refine hr_sp hx hb dX12_tries_17 (by decide) (by decide) (fun z17 hz17 => ?_)
        refine lv_iload_n hx hb dX12_tries_20 rfl (lv_at hl 0 rfl) ?_
        refine hr_add hx hb dX12_tries_21 (by omega) (by omega) (fun z21 hz21 => ?_)
        refine hr_iald B hb hW tz14 rfl (by omega) (by omega) dX12_tries_22 (fun z22 iz22 pz22 xz22 => ?_)
        refine hr_iastG B hb hU hW hS tz9 rfl (by omega) (by omega) ?_ (hr_EA hX tz9 (u := 0) (v := 45) (by omega) (by omega) (by decide)) dX12_tries_23 (fun H locs pvv' hW hS w1 w2 => ?_)
        · have e1 := sg_BS i.toInt.toNat (by omega)
          rw [show 140 + i.toInt.toNat = z21.toInt.toNat by omega] at e1
          unfold ck_in; rw [e1]; exact iz22
        refine hr_inc hx hb dX12_tries_24 hl (kq := 0) (lv' := fun v => [(1, .int v), (0, .ref a0)]) rfl (by decide) (by decide) (by omega) (by omega) (fun _ => rfl) (fun z24 ls hz24 hl => ?_)
        refine lv_goto (tgt := 2) hx hb dX12_tries_27 (by decide) ?_
        refine ih z24 pvv' ls H locs (by omega) (by omega) (by omega) (fun j hj => ?_) (fun _ => ?_) hl hW hS
        · refine (w2 j (fun h9 => hj ?_)).trans (hq j hj)
          exact (pv_o1 (a := 18) (b := 0) (by decide +kernel) h9).1
        · by_cases h0 : i.toInt = 0
          · rw [w1 18 (by rw [h0]; rfl), pz22 16 (by rw [show z21.toInt.toNat = 140 by omega]; rfl)]; exact hq _ (by decide)
          · refine (w2 18 (fun h9 => ?_)).trans (hb1 (by omega))
            have := pv_o1 (a := 18) (b := 0) (by decide +kernel) h9; omega
  refine hr_ic hx hb dX12_tries_0 (by decide) (fun z0 hz0 => ?_)
  refine lv_istore_n hx hb dX12_tries_1 rfl hl (lv' := [(1, .int z0), (0, .ref a0)]) (by decide) rfl (fun ls hl => ?_)
  exact loop 47 z0 pvv0 _ _ _ (by omega) (by omega) (by omega) (fun _ _ => rfl) (fun h => absurd h (by omega)) hl hW va_S.rf
theorem dX12_back_0 : decode cX12_back 0 = .ok (.iconst 0, 1) := by decide +kernel
theorem dX12_back_1 : decode cX12_back 1 = .ok (.istore_n 1, 1) := by decide +kernel
theorem dX12_back_2 : decode cX12_back 2 = .ok (.iload_n 1, 1) := by decide +kernel
theorem dX12_back_3 : decode cX12_back 3 = .ok (.bipush 46, 2) := by decide +kernel
theorem dX12_back_5 : decode cX12_back 5 = .ok (.if_icmp .ge 25, 3) := by decide +kernel
theorem dX12_back_8 : decode cX12_back 8 = .ok (.aload_n 0, 1) := by decide +kernel
theorem dX12_back_9 : decode cX12_back 9 = .ok (.getfield 33, 3) := by decide +kernel
theorem dX12_back_12 : decode cX12_back 12 = .ok (.sipush 140, 3) := by decide +kernel
theorem dX12_back_15 : decode cX12_back 15 = .ok (.iload_n 1, 1) := by decide +kernel
theorem dX12_back_16 : decode cX12_back 16 = .ok (.iadd, 1) := by decide +kernel
theorem dX12_back_17 : decode cX12_back 17 = .ok (.aload_n 0, 1) := by decide +kernel
theorem dX12_back_18 : decode cX12_back 18 = .ok (.getfield 53, 3) := by decide +kernel
theorem dX12_back_21 : decode cX12_back 21 = .ok (.iload_n 1, 1) := by decide +kernel
theorem dX12_back_22 : decode cX12_back 22 = .ok (.iaload, 1) := by decide +kernel
theorem dX12_back_23 : decode cX12_back 23 = .ok (.iastore, 1) := by decide +kernel
theorem dX12_back_24 : decode cX12_back 24 = .ok (.iinc 1 1, 3) := by decide +kernel
theorem dX12_back_27 : decode cX12_back 27 = .ok (.goto (-25), 3) := by decide +kernel
theorem dX12_back_30 : decode cX12_back 30 = .ok (.return_, 1) := by decide +kernel
set_option maxRecDepth 100000 in
theorem hk_12_back (hF : ck_LKf ck_LK) (hM : ck_LKm ck_tags ck_LK ck_tab) (hU : ck_uq ty ck_pvs0) (hun : ck_un ty) (hX : ck_ExP ty ck_protA Ex) (hH : ∀ j, j < 190 → ck_Holds l D cys ty ck_tags ck_pvs0 Ex (ck_tab j)) : ck_Holds l D cys ty ck_tags ck_pvs0 Ex (ck_tab 190) := by
  refine cm_enter (by decide +kernel) (by decide +kernel) (by decide +kernel) ?_
  intro vs pvv0 p e s m below meth c ls ha hp B hl hW
  have hx := B.1
  have hb : c.code = cX12_back := B.2.1
  have hI := pv_inj
  obtain ⟨_, rfl, a0, rfl, t0⟩ := cm_a1 ha
  have hl : lv_has ls 2 [(0, .ref a0)] := hl
  have loop : ∀ (n : Nat) (i : Int32) (pvv : Nat → Int32) (ls : Array Slot) (H : Heap) (locs : List Loc), 0 ≤ i.toInt → i.toInt ≤ 46 → 46 - i.toInt < n → (∀ j, j ≠ 16 → pvv j = pvv0 j) → (1 ≤ i.toInt → pvv 16 = pvv0 18) → lv_has ls 2 [(1, .int i), (0, .ref a0)] → ck_Wo D cys ty ck_tags ck_pvs0 Ex pvv H → va_S (ck_own ty) s.heap H locs → W p l e (ck_rm (ck_tab 190)) s m [Value.ref a0].toArray below meth c H locs 0 0 (MQ below (ck_Qc D cys ty ck_tags ck_pvs0 Ex (ck_tab 190) [Value.ref a0] pvv0) [Value.ref a0].toArray s 0 0 (ck_own ty)) (F0 m 2 ls []) := by
    intro n
    induction n with
    | zero => intro i pvv ls H locs h1 h2 h3; omega
    | succ n ih =>
      intro i pvv ls H locs i1 i2 i3 hq hb1 hl hW hS
      refine lv_iload_n hx hb dX12_back_2 rfl (lv_at hl 0 rfl) ?_
      refine hr_bp hx hb dX12_back_3 (by decide) (by decide) (fun z3 hz3 => ?_)
      refine hr_ge (tgt := 30) hx hb dX12_back_5 (by decide) (fun h5 => ?_) (fun h5 => ?_)
      · have e0 := hb1 (by omega)
        have r0 := hr_pv hp 18 (lo := 0) (hi := 6) rfl
        refine cm_vret B hb rfl ⟨_, List.mem_cons_self, True.intro, (fun q h => nomatch h), ?_⟩ hW hS dX12_back_30
        refine hr_set1 (P := pU) (f := pvv0) (j := 16) ?_ (hr_vd (q := 18) (lo := 0) (hi := 6) (a := 0) (b := 0) (by rw [e0]; exact r0.1) (by rw [e0]; exact r0.2) (by rw [e0]; omega) (by rw [e0]; omega)) hq
        exact hr_wk (hr_self hp) (by decide +kernel)
      · refine lv_aload_n hx hb dX12_back_8 rfl (lv_at hl 1 rfl) ?_
        refine hr_getR B hF hb hW (ci := 12) (j := 6) (cd := 3) t0 rfl (isF (by decide +kernel)) rfl dX12_back_9 (fun az9 tz9 xz9 => ?_)
        refine hr_sp hx hb dX12_back_12 (by decide) (by decide) (fun z12 hz12 => ?_)
        refine lv_iload_n hx hb dX12_back_15 rfl (lv_at hl 0 rfl) ?_
        refine hr_add hx hb dX12_back_16 (by omega) (by omega) (fun z16 hz16 => ?_)
        refine lv_aload_n hx hb dX12_back_17 rfl (lv_at hl 1 rfl) ?_
        refine hr_getR B hF hb hW (ci := 12) (j := 21) (cd := 3) t0 rfl (isF (by decide +kernel)) rfl dX12_back_18 (fun az18 tz18 xz18 => ?_)
        refine lv_iload_n hx hb dX12_back_21 rfl (lv_at hl 0 rfl) ?_
        refine hr_iald B hb hW tz18 rfl (by omega) (by omega) dX12_back_22 (fun z22 iz22 pz22 xz22 => ?_)
        refine hr_iastG B hb hU hW hS tz9 rfl (by omega) (by omega) ?_ (hr_EA hX tz9 (u := 140) (v := 185) (by omega) (by omega) (by decide)) dX12_back_23 (fun H locs pvv' hW hS w1 w2 => ?_)
        · have e1 := sg_BS i.toInt.toNat (by omega)
          rw [show 140 + i.toInt.toNat = z16.toInt.toNat by omega] at e1
          unfold ck_in; rw [← e1]; exact iz22
        refine hr_inc hx hb dX12_back_24 hl (kq := 0) (lv' := fun v => [(1, .int v), (0, .ref a0)]) rfl (by decide) (by decide) (by omega) (by omega) (fun _ => rfl) (fun z24 ls hz24 hl => ?_)
        refine lv_goto (tgt := 2) hx hb dX12_back_27 (by decide) ?_
        refine ih z24 pvv' ls H locs (by omega) (by omega) (by omega) (fun j hj => ?_) (fun _ => ?_) hl hW hS
        · refine (w2 j (fun h9 => ?_)).trans (hq j hj)
          rcases pv_o2 (a := 16) (b := 140) (a' := 17) (b' := 3) (by decide +kernel) h9 with h | h <;> omega
        · by_cases h0 : i.toInt = 0
          · rw [w1 16 (by rw [show z16.toInt.toNat = 140 by omega]; rfl), pz22 18 (by rw [h0]; rfl)]; exact hq _ (by decide)
          · refine (w2 16 (fun h9 => ?_)).trans (hb1 (by omega))
            rcases pv_o2 (a := 16) (b := 140) (a' := 17) (b' := 3) (by decide +kernel) h9 with h | h <;> omega
  refine hr_ic hx hb dX12_back_0 (by decide) (fun z0 hz0 => ?_)
  refine lv_istore_n hx hb dX12_back_1 rfl hl (lv' := [(1, .int z0), (0, .ref a0)]) (by decide) rfl (fun ls hl => ?_)
  exact loop 47 z0 pvv0 _ _ _ (by omega) (by omega) (by omega) (fun _ _ => rfl) (fun h => absurd h (by omega)) hl hW va_S.rf
end H22
end
section
/-! BY HAND, 5: bits; what is read twice: lossBy, rises, prices. -/
section H23
variable {l : Launch} {D : va_G} {cys : Nat → ClassId} {ty : Nat → Option Nat} {tg : List ck_TD} {pvT : List (Nat × Nat)} {Ex : va_W → Prop} {pvv : Nat → Int32} {H : Heap}
def ta (a : Nat) (cy : ClassId) (n : Nat) (f : Nat → Int32) (ws : va_W) : Prop := ∃ (q : Nat) (g : Nat → Int32), ws[q]? = some (a, .inl (cy, n, .inl g)) ∧ ∀ j, j < n → g j = f j
theorem hr_trk (hW : ck_Wo D cys ty tg pvT Ex pvv H) {a t kd n et : Nat} {sg : List (Nat × Int × Int)} (hta : ty a = some t) (htd : tg[t]? = some (.inr (kd, n, sg, et))) (hkd : kd < 3) : ∃ f : Nat → Int32, ck_Wo D cys ty tg pvT (fun ws => Ex ws ∧ ta a (cys kd) n f ws) pvv H := by
  obtain ⟨ws, h1, h2, h3, h4, h5⟩ := hW
  obtain ⟨q, f, g1, -⟩ := ck_arrI h3 hta htd hkd
  exact ⟨f, ws, h1, h2, h3, h4, h5, q, f, g1, fun _ _ => rfl⟩
theorem ta_xa {a n i : Nat} {cy : ClassId} {f : Nat → Int32} {z : Int32} (h : hr_xa ty (fun ws => Ex ws ∧ ta a cy n f ws) a cy n i z) (hi : i < n) : z = f i := by
  obtain ⟨ws, q, g, h1, h2, h3, h4⟩ := h
  obtain ⟨q', g', h5, h6⟩ := h2.2
  have h7 := (ck_D1 h1 h3 h5).2
  cases h7
  rw [← h4]
  exact h6 i hi
theorem cm_bits_fall {v : Int32} (h : v.toInt ≠ 0) : (v &&& (v - 1)).toBitVec.toNat < v.toBitVec.toNat := by
  have h0 : v.toBitVec.toNat ≠ 0 := fun q => h (by
    have : v.toBitVec = 0 := BitVec.eq_of_toNat_eq q
    have : v = 0 := Int32.toBitVec.inj this
    rw [this]; rfl)
  have e1 : (v - 1).toBitVec.toNat = v.toBitVec.toNat - 1 := by
    rw [Int32.toBitVec_sub, BitVec.toNat_sub]
    have h1 : v.toBitVec.toNat < 2 ^ 32 := v.toBitVec.isLt
    have h2 : (1 : Int32).toBitVec.toNat = 1 := rfl
    rw [h2]
    omega
  rw [Int32.toBitVec_and, BitVec.toNat_and, e1]
  exact Nat.lt_of_le_of_lt Nat.and_le_right (by omega)
theorem dX12_bits_0 : decode cX12_bits 0 = .ok (.iconst 0, 1) := by decide +kernel
theorem dX12_bits_1 : decode cX12_bits 1 = .ok (.istore_n 1, 1) := by decide +kernel
theorem dX12_bits_2 : decode cX12_bits 2 = .ok (.iload_n 0, 1) := by decide +kernel
theorem dX12_bits_3 : decode cX12_bits 3 = .ok (.istore_n 2, 1) := by decide +kernel
theorem dX12_bits_4 : decode cX12_bits 4 = .ok (.iload_n 2, 1) := by decide +kernel
theorem dX12_bits_5 : decode cX12_bits 5 = .ok (.ifCond .eq 15, 3) := by decide +kernel
theorem dX12_bits_8 : decode cX12_bits 8 = .ok (.iinc 1 1, 3) := by decide +kernel
theorem dX12_bits_11 : decode cX12_bits 11 = .ok (.iload_n 2, 1) := by decide +kernel
theorem dX12_bits_12 : decode cX12_bits 12 = .ok (.iload_n 2, 1) := by decide +kernel
theorem dX12_bits_13 : decode cX12_bits 13 = .ok (.iconst 1, 1) := by decide +kernel
theorem dX12_bits_14 : decode cX12_bits 14 = .ok (.isub, 1) := by decide +kernel
theorem dX12_bits_15 : decode cX12_bits 15 = .ok (.iand, 1) := by decide +kernel
theorem dX12_bits_16 : decode cX12_bits 16 = .ok (.istore_n 2, 1) := by decide +kernel
theorem dX12_bits_17 : decode cX12_bits 17 = .ok (.goto (-13), 3) := by decide +kernel
theorem dX12_bits_20 : decode cX12_bits 20 = .ok (.iload_n 1, 1) := by decide +kernel
theorem dX12_bits_21 : decode cX12_bits 21 = .ok (.ireturn, 1) := by decide +kernel
set_option maxRecDepth 100000 in
set_option maxHeartbeats 4000000 in
theorem hk_12_bits (hF : ck_LKf ck_LK) (hM : ck_LKm ck_tags ck_LK ck_tab) (hU : ck_uq ty ck_pvs0) (hun : ck_un ty) (hX : ck_ExP ty ck_protA Ex) (hH : ∀ j, j < 198 → ck_Holds l D cys ty ck_tags ck_pvs0 Ex (ck_tab j)) : ck_Holds l D cys ty ck_tags ck_pvs0 Ex (ck_tab 198) := by
  refine cm_enter (by decide +kernel) (by decide +kernel) (by decide +kernel) ?_
  intro vs pvv0 p e s m below meth c ls ha hp B hl hW
  have hx := B.1
  have hb : c.code = cX12_bits := B.2.1
  have hI := pv_inj
  have hS : va_S (ck_own ty) s.heap s.heap [] := va_S.rf
  obtain ⟨_, rfl, ⟨x0, rfl, l0, u0, -⟩⟩ := cm_a1 ha
  dsimp only at l0 u0
  have hl : lv_has ls 3 [(0, .int x0)] := hl
  have hp0 := hp
  have loop : ∀ (n : Nat) (v1 v2 : Int32) (ls : Array Slot), v2.toBitVec.toNat < n → lv_has ls 3 [(2, .int v2), (1, .int v1), (0, .int x0)] → W p l e (ck_rm (ck_tab 198)) s m [Value.int x0].toArray below meth c s.heap [] 0 0 (MQ below (ck_Qc D cys ty ck_tags ck_pvs0 Ex (ck_tab 198) [Value.int x0] pvv0) [Value.int x0].toArray s 0 0 (ck_own ty)) (F0 m 4 ls []) := by
    intro n
    induction n with
    | zero => intro v1 v2 ls h; omega
    | succ n ih =>
      intro v1 v2 ls hn hl
      refine lv_iload_n hx hb dX12_bits_4 rfl (lv_at hl 0 rfl) ?_
      refine hr_eq0 (tgt := 20) hx hb dX12_bits_5 (by decide) (fun h5 => ?_) (fun h5 => ?_)
      · refine lv_iload_n hx hb dX12_bits_20 rfl (lv_at hl 1 rfl) ?_
        exact cm_iret B hb rfl ⟨_, List.mem_cons_self, hr_aF (ty := ty), (fun q h => nomatch h), hr_wk (hr_self hp0) (by decide +kernel)⟩ hW hS dX12_bits_21
      · obtain ⟨z8, hz8⟩ : ∃ z, v1 + Int32.ofInt 1 = z := ⟨_, rfl⟩
        refine lv_iinc hx hb dX12_bits_8 hl (k := 1) (v := z8) (lv' := [(1, .int z8), (2, .int v2), (0, .int x0)]) rfl hz8 (by decide) rfl (fun ls hl => ?_)
        refine lv_iload_n hx hb dX12_bits_11 rfl (lv_at hl 1 rfl) ?_
        refine lv_iload_n hx hb dX12_bits_12 rfl (lv_at hl 1 rfl) ?_
        refine hr_ic hx hb dX12_bits_13 (by decide) (fun z13 hz13 => ?_)
        refine lv_isub hx hb dX12_bits_14 (lv_topi (fun z14 hz14 => ?_))
        refine lv_iand hx hb dX12_bits_15 (lv_topi (fun z15 hz15 => ?_))
        refine lv_istore_n hx hb dX12_bits_16 rfl hl (lv' := [(2, .int z15), (1, .int z8), (0, .int x0)]) (by decide) rfl (fun ls hl => ?_)
        refine lv_goto (tgt := 4) hx hb dX12_bits_17 (by decide) ?_
        have e14 : z14 = v2 - 1 := by rw [hz14]; congr 1; exact Int32.toInt_inj.mp (by rw [hz13]; rfl)
        rw [e14] at hz15
        exact ih z8 z15 _ (by rw [hz15]; have := cm_bits_fall h5; omega) hl
  refine hr_ic hx hb dX12_bits_0 (by decide) (fun z0 hz0 => ?_)
  refine lv_istore_n hx hb dX12_bits_1 rfl hl (lv' := [(1, .int z0), (0, .int x0)]) (by decide) rfl (fun ls hl => ?_)
  refine lv_iload_n hx hb dX12_bits_2 rfl (lv_at hl 1 rfl) ?_
  refine lv_istore_n hx hb dX12_bits_3 rfl hl (lv' := [(2, .int x0), (1, .int z0), (0, .int x0)]) (by decide) rfl (fun ls hl => ?_)
  exact loop _ _ _ _ (Nat.lt_succ_self _) hl
theorem dX2_lossBy_0 : decode cX2_lossBy 0 = .ok (.aload_n 0, 1) := by decide +kernel
theorem dX2_lossBy_1 : decode cX2_lossBy 1 = .ok (.getfield 40, 3) := by decide +kernel
theorem dX2_lossBy_4 : decode cX2_lossBy 4 = .ok (.iload_n 3, 1) := by decide +kernel
theorem dX2_lossBy_5 : decode cX2_lossBy 5 = .ok (.iaload, 1) := by decide +kernel
theorem dX2_lossBy_6 : decode cX2_lossBy 6 = .ok (.iconst (-1), 1) := by decide +kernel
theorem dX2_lossBy_7 : decode cX2_lossBy 7 = .ok (.if_icmp .ne 7, 3) := by decide +kernel
theorem dX2_lossBy_10 : decode cX2_lossBy 10 = .ok (.iconst 0, 1) := by decide +kernel
theorem dX2_lossBy_11 : decode cX2_lossBy 11 = .ok (.goto 24, 3) := by decide +kernel
theorem dX2_lossBy_14 : decode cX2_lossBy 14 = .ok (.aload_n 1, 1) := by decide +kernel
theorem dX2_lossBy_15 : decode cX2_lossBy 15 = .ok (.getfield 98, 3) := by decide +kernel
theorem dX2_lossBy_18 : decode cX2_lossBy 18 = .ok (.aload_n 0, 1) := by decide +kernel
theorem dX2_lossBy_19 : decode cX2_lossBy 19 = .ok (.getfield 40, 3) := by decide +kernel
theorem dX2_lossBy_22 : decode cX2_lossBy 22 = .ok (.iload_n 3, 1) := by decide +kernel
theorem dX2_lossBy_23 : decode cX2_lossBy 23 = .ok (.iaload, 1) := by decide +kernel
theorem dX2_lossBy_24 : decode cX2_lossBy 24 = .ok (.iaload, 1) := by decide +kernel
theorem dX2_lossBy_25 : decode cX2_lossBy 25 = .ok (.aload_n 1, 1) := by decide +kernel
theorem dX2_lossBy_26 : decode cX2_lossBy 26 = .ok (.getfield 98, 3) := by decide +kernel
theorem dX2_lossBy_29 : decode cX2_lossBy 29 = .ok (.iload_n 2, 1) := by decide +kernel
theorem dX2_lossBy_30 : decode cX2_lossBy 30 = .ok (.iaload, 1) := by decide +kernel
theorem dX2_lossBy_31 : decode cX2_lossBy 31 = .ok (.isub, 1) := by decide +kernel
theorem dX2_lossBy_32 : decode cX2_lossBy 32 = .ok (.invokestatic 154, 3) := by decide +kernel
theorem dX2_lossBy_35 : decode cX2_lossBy 35 = .ok (.ireturn, 1) := by decide +kernel
set_option maxRecDepth 100000 in
set_option maxHeartbeats 4000000 in
theorem hk_2_lossBy (hF : ck_LKf ck_LK) (hM : ck_LKm ck_tags ck_LK ck_tab) (hU : ck_uq ty ck_pvs0) (hun : ck_un ty) (hX : ck_ExP ty ck_protA Ex) (hH : ∀ j, j < 32 → ck_Holds l D cys ty ck_tags ck_pvs0 Ex (ck_tab j)) : ck_Holds l D cys ty ck_tags ck_pvs0 Ex (ck_tab 32) := by
  refine cm_enter (by decide +kernel) (by decide +kernel) (by decide +kernel) ?_
  intro vs pvv0 p e s m below meth c ls ha hp B hl hW
  have hx := B.1
  have hb : c.code = cX2_lossBy := B.2.1
  have hI := pv_inj
  have hS : va_S (ck_own ty) s.heap s.heap [] := va_S.rf
  obtain ⟨_, _, _, _, rfl, ⟨a0, rfl, t0⟩, ⟨a1, rfl, t1⟩, ⟨x2, rfl, l2, u2, -⟩, ⟨x3, rfl, l3, u3, -⟩⟩ := cm_a4 ha
  dsimp only at l2 u2
  dsimp only at l3 u3
  have hl : lv_has ls 4 [(0, .ref a0), (1, .ref a1), (2, .int x2), (3, .int x3)] := hl
  have hp0 := hp
  obtain ⟨ws, hP, hD, hT, hV, hE⟩ := id hW
  obtain ⟨q0, fs0, g0, -, f0⟩ := cm_obj hT t0 rfl
  obtain ⟨_, e9, a9, rfl, t9⟩ := f0 9 _ rfl
  obtain ⟨q9, f9, g9, i9⟩ := ck_arrI hT t9 rfl (by decide)
  have i9 := hr_inr (i9 x3.toInt.toNat (by omega)) (a := 0) (b := 5) (lo := -1) (hi := 7) (by omega) (by omega) (by decide +kernel)
  refine lv_aload_n hx hb dX2_lossBy_0 rfl (lv_at hl 0 rfl) ?_
  refine cm_get (ci := 2) (j := 9) (cd := 3) B hF hb hP g0 (isF (by decide +kernel)) e9 dX2_lossBy_1 ?_
  refine lv_iload_n hx hb dX2_lossBy_4 rfl (lv_at hl 3 rfl) ?_
  refine cm_iald B hb hP g9 (by omega) (by omega) dX2_lossBy_5 ?_
  refine hr_ic hx hb dX2_lossBy_6 (by decide) (fun z6 hz6 => ?_)
  refine hr_ne (tgt := 14) hx hb dX2_lossBy_7 (by decide) (fun h7 => ?_) (fun h7 => ?_)
  · refine lv_aload_n hx hb dX2_lossBy_14 rfl (lv_at hl 1 rfl) ?_
    refine hr_getR B hF hb hW (ci := 6) (j := 12) (cd := 3) t1 rfl (isF (by decide +kernel)) rfl dX2_lossBy_15 (fun az15 tz15 xz15 => ?_)
    refine lv_aload_n hx hb dX2_lossBy_18 rfl (lv_at hl 0 rfl) ?_
    refine cm_get (ci := 2) (j := 9) (cd := 3) B hF hb hP g0 (isF (by decide +kernel)) e9 dX2_lossBy_19 ?_
    refine lv_iload_n hx hb dX2_lossBy_22 rfl (lv_at hl 3 rfl) ?_
    refine cm_iald B hb hP g9 (by omega) (by omega) dX2_lossBy_23 ?_
    refine hr_iald B hb hW tz15 rfl (by omega) (by omega) dX2_lossBy_24 (fun z24 iz24 pz24 xz24 => ?_)
    refine lv_aload_n hx hb dX2_lossBy_25 rfl (lv_at hl 1 rfl) ?_
    refine hr_getR B hF hb hW (ci := 6) (j := 12) (cd := 3) t1 rfl (isF (by decide +kernel)) rfl dX2_lossBy_26 (fun az26 tz26 xz26 => ?_)
    refine lv_iload_n hx hb dX2_lossBy_29 rfl (lv_at hl 2 rfl) ?_
    refine hr_iald B hb hW tz26 rfl (by omega) (by omega) dX2_lossBy_30 (fun z30 iz30 pz30 xz30 => ?_)
    refine lv_isub hx hb dX2_lossBy_31 (lv_topi (fun z31 hz31 => ?_))
    refine cm_callS (kc := kc_31) B rfl hb hl (hM.1 _ _ 1 [31] (isM (by decide +kernel)) 31 (by decide)) (hH 31 (by decide)) (As := [.int z31]) ⟨hr_aF, True.intro⟩ hp hW hS rfl (by decide) (by decide) (Nat.le_of_ble_eq_true rfl) dX2_lossBy_32 (fun cs hcs r pvv32 H locs hca hW hS => ?_)
    obtain rfl := List.mem_singleton.mp hcs
    obtain ⟨hr, hq, hc⟩ := hca
    obtain ⟨z32, rfl, lz32, uz32⟩ := hr_rvI hr
    have hW := hr_pvE (hr_sameA hc rfl (by decide +kernel)) hW
    exact cm_iret B hb rfl ⟨_, List.mem_cons_self, hr_aF (ty := ty), (fun q h => nomatch h), hr_wk (hr_self hp0) (by decide +kernel)⟩ hW hS dX2_lossBy_35
  · refine hr_ic hx hb dX2_lossBy_10 (by decide) (fun z10 hz10 => ?_)
    refine lv_goto (tgt := 35) hx hb dX2_lossBy_11 (by decide) ?_
    exact cm_iret B hb rfl ⟨_, List.mem_cons_self, hr_aF (ty := ty), (fun q h => nomatch h), hr_wk (hr_self hp0) (by decide +kernel)⟩ hW hS dX2_lossBy_35
theorem dX12_rises_0 : decode cX12_rises 0 = .ok (.iconst 0, 1) := by decide +kernel
theorem dX12_rises_1 : decode cX12_rises 1 = .ok (.istore_n 1, 1) := by decide +kernel
theorem dX12_rises_2 : decode cX12_rises 2 = .ok (.iload_n 1, 1) := by decide +kernel
theorem dX12_rises_3 : decode cX12_rises 3 = .ok (.aload_n 0, 1) := by decide +kernel
theorem dX12_rises_4 : decode cX12_rises 4 = .ok (.getfield 33, 3) := by decide +kernel
theorem dX12_rises_7 : decode cX12_rises 7 = .ok (.iconst 2, 1) := by decide +kernel
theorem dX12_rises_8 : decode cX12_rises 8 = .ok (.iaload, 1) := by decide +kernel
theorem dX12_rises_9 : decode cX12_rises 9 = .ok (.if_icmp .ge 109, 3) := by decide +kernel
theorem dX12_rises_12 : decode cX12_rises 12 = .ok (.aload_n 0, 1) := by decide +kernel
theorem dX12_rises_13 : decode cX12_rises 13 = .ok (.getfield 33, 3) := by decide +kernel
theorem dX12_rises_16 : decode cX12_rises 16 = .ok (.sipush 146, 3) := by decide +kernel
theorem dX12_rises_19 : decode cX12_rises 19 = .ok (.iload_n 1, 1) := by decide +kernel
theorem dX12_rises_20 : decode cX12_rises 20 = .ok (.iadd, 1) := by decide +kernel
theorem dX12_rises_21 : decode cX12_rises 21 = .ok (.iaload, 1) := by decide +kernel
theorem dX12_rises_22 : decode cX12_rises 22 = .ok (.ifCond .le 6, 3) := by decide +kernel
theorem dX12_rises_25 : decode cX12_rises 25 = .ok (.goto 87, 3) := by decide +kernel
theorem dX12_rises_28 : decode cX12_rises 28 = .ok (.aload_n 0, 1) := by decide +kernel
theorem dX12_rises_29 : decode cX12_rises 29 = .ok (.getfield 33, 3) := by decide +kernel
theorem dX12_rises_32 : decode cX12_rises 32 = .ok (.sipush 144, 3) := by decide +kernel
theorem dX12_rises_35 : decode cX12_rises 35 = .ok (.dup2, 1) := by decide +kernel
theorem dX12_rises_36 : decode cX12_rises 36 = .ok (.iaload, 1) := by decide +kernel
theorem dX12_rises_37 : decode cX12_rises 37 = .ok (.aload_n 0, 1) := by decide +kernel
theorem dX12_rises_38 : decode cX12_rises 38 = .ok (.getfield 33, 3) := by decide +kernel
theorem dX12_rises_41 : decode cX12_rises 41 = .ok (.bipush 26, 2) := by decide +kernel
theorem dX12_rises_43 : decode cX12_rises 43 = .ok (.iload_n 1, 1) := by decide +kernel
theorem dX12_rises_44 : decode cX12_rises 44 = .ok (.iadd, 1) := by decide +kernel
theorem dX12_rises_45 : decode cX12_rises 45 = .ok (.iaload, 1) := by decide +kernel
theorem dX12_rises_46 : decode cX12_rises 46 = .ok (.iadd, 1) := by decide +kernel
theorem dX12_rises_47 : decode cX12_rises 47 = .ok (.iastore, 1) := by decide +kernel
theorem dX12_rises_48 : decode cX12_rises 48 = .ok (.aload_n 0, 1) := by decide +kernel
theorem dX12_rises_49 : decode cX12_rises 49 = .ok (.getfield 33, 3) := by decide +kernel
theorem dX12_rises_52 : decode cX12_rises 52 = .ok (.sipush 154, 3) := by decide +kernel
theorem dX12_rises_55 : decode cX12_rises 55 = .ok (.iload_n 1, 1) := by decide +kernel
theorem dX12_rises_56 : decode cX12_rises 56 = .ok (.iadd, 1) := by decide +kernel
theorem dX12_rises_57 : decode cX12_rises 57 = .ok (.dup2, 1) := by decide +kernel
theorem dX12_rises_58 : decode cX12_rises 58 = .ok (.iaload, 1) := by decide +kernel
theorem dX12_rises_59 : decode cX12_rises 59 = .ok (.aload_n 0, 1) := by decide +kernel
theorem dX12_rises_60 : decode cX12_rises 60 = .ok (.aload_n 0, 1) := by decide +kernel
theorem dX12_rises_61 : decode cX12_rises 61 = .ok (.getfield 33, 3) := by decide +kernel
theorem dX12_rises_64 : decode cX12_rises 64 = .ok (.sipush 140, 3) := by decide +kernel
theorem dX12_rises_67 : decode cX12_rises 67 = .ok (.iaload, 1) := by decide +kernel
theorem dX12_rises_68 : decode cX12_rises 68 = .ok (.invokevirtual 274, 3) := by decide +kernel
theorem dX12_rises_71 : decode cX12_rises 71 = .ok (.ior, 1) := by decide +kernel
theorem dX12_rises_72 : decode cX12_rises 72 = .ok (.iastore, 1) := by decide +kernel
theorem dX12_rises_73 : decode cX12_rises 73 = .ok (.aload_n 0, 1) := by decide +kernel
theorem dX12_rises_74 : decode cX12_rises 74 = .ok (.iload_n 1, 1) := by decide +kernel
theorem dX12_rises_75 : decode cX12_rises 75 = .ok (.invokevirtual 301, 3) := by decide +kernel
theorem dX12_rises_78 : decode cX12_rises 78 = .ok (.istore_n 2, 1) := by decide +kernel
theorem dX12_rises_79 : decode cX12_rises 79 = .ok (.iload_n 2, 1) := by decide +kernel
theorem dX12_rises_80 : decode cX12_rises 80 = .ok (.ifCond .ge 6, 3) := by decide +kernel
theorem dX12_rises_83 : decode cX12_rises 83 = .ok (.goto 29, 3) := by decide +kernel
theorem dX12_rises_86 : decode cX12_rises 86 = .ok (.aload_n 0, 1) := by decide +kernel
theorem dX12_rises_87 : decode cX12_rises 87 = .ok (.getfield 33, 3) := by decide +kernel
theorem dX12_rises_90 : decode cX12_rises 90 = .ok (.sipush 170, 3) := by decide +kernel
theorem dX12_rises_93 : decode cX12_rises 93 = .ok (.iload_n 2, 1) := by decide +kernel
theorem dX12_rises_94 : decode cX12_rises 94 = .ok (.iadd, 1) := by decide +kernel
theorem dX12_rises_95 : decode cX12_rises 95 = .ok (.dup2, 1) := by decide +kernel
theorem dX12_rises_96 : decode cX12_rises 96 = .ok (.iaload, 1) := by decide +kernel
theorem dX12_rises_97 : decode cX12_rises 97 = .ok (.iconst 1, 1) := by decide +kernel
theorem dX12_rises_98 : decode cX12_rises 98 = .ok (.iadd, 1) := by decide +kernel
theorem dX12_rises_99 : decode cX12_rises 99 = .ok (.iastore, 1) := by decide +kernel
theorem dX12_rises_100 : decode cX12_rises 100 = .ok (.aload_n 0, 1) := by decide +kernel
theorem dX12_rises_101 : decode cX12_rises 101 = .ok (.getfield 33, 3) := by decide +kernel
theorem dX12_rises_104 : decode cX12_rises 104 = .ok (.sipush 145, 3) := by decide +kernel
theorem dX12_rises_107 : decode cX12_rises 107 = .ok (.dup2, 1) := by decide +kernel
theorem dX12_rises_108 : decode cX12_rises 108 = .ok (.iaload, 1) := by decide +kernel
theorem dX12_rises_109 : decode cX12_rises 109 = .ok (.iconst 1, 1) := by decide +kernel
theorem dX12_rises_110 : decode cX12_rises 110 = .ok (.iadd, 1) := by decide +kernel
theorem dX12_rises_111 : decode cX12_rises 111 = .ok (.iastore, 1) := by decide +kernel
theorem dX12_rises_112 : decode cX12_rises 112 = .ok (.iinc 1 1, 3) := by decide +kernel
theorem dX12_rises_115 : decode cX12_rises 115 = .ok (.goto (-113), 3) := by decide +kernel
theorem dX12_rises_118 : decode cX12_rises 118 = .ok (.aload_n 0, 1) := by decide +kernel
theorem dX12_rises_119 : decode cX12_rises 119 = .ok (.getfield 33, 3) := by decide +kernel
theorem dX12_rises_122 : decode cX12_rises 122 = .ok (.sipush 178, 3) := by decide +kernel
theorem dX12_rises_125 : decode cX12_rises 125 = .ok (.aload_n 0, 1) := by decide +kernel
theorem dX12_rises_126 : decode cX12_rises 126 = .ok (.invokevirtual 277, 3) := by decide +kernel
theorem dX12_rises_129 : decode cX12_rises 129 = .ok (.iastore, 1) := by decide +kernel
theorem dX12_rises_130 : decode cX12_rises 130 = .ok (.iconst 0, 1) := by decide +kernel
theorem dX12_rises_131 : decode cX12_rises 131 = .ok (.istore_n 1, 1) := by decide +kernel
theorem dX12_rises_132 : decode cX12_rises 132 = .ok (.iload_n 1, 1) := by decide +kernel
theorem dX12_rises_133 : decode cX12_rises 133 = .ok (.aload_n 0, 1) := by decide +kernel
theorem dX12_rises_134 : decode cX12_rises 134 = .ok (.getfield 33, 3) := by decide +kernel
theorem dX12_rises_137 : decode cX12_rises 137 = .ok (.iconst 2, 1) := by decide +kernel
theorem dX12_rises_138 : decode cX12_rises 138 = .ok (.iaload, 1) := by decide +kernel
theorem dX12_rises_139 : decode cX12_rises 139 = .ok (.if_icmp .ge 39, 3) := by decide +kernel
theorem dX12_rises_142 : decode cX12_rises 142 = .ok (.aload_n 0, 1) := by decide +kernel
theorem dX12_rises_143 : decode cX12_rises 143 = .ok (.getfield 33, 3) := by decide +kernel
theorem dX12_rises_146 : decode cX12_rises 146 = .ok (.sipush 146, 3) := by decide +kernel
theorem dX12_rises_149 : decode cX12_rises 149 = .ok (.iload_n 1, 1) := by decide +kernel
theorem dX12_rises_150 : decode cX12_rises 150 = .ok (.iadd, 1) := by decide +kernel
theorem dX12_rises_151 : decode cX12_rises 151 = .ok (.iaload, 1) := by decide +kernel
theorem dX12_rises_152 : decode cX12_rises 152 = .ok (.ifCond .le 20, 3) := by decide +kernel
theorem dX12_rises_155 : decode cX12_rises 155 = .ok (.aload_n 0, 1) := by decide +kernel
theorem dX12_rises_156 : decode cX12_rises 156 = .ok (.iload_n 1, 1) := by decide +kernel
theorem dX12_rises_157 : decode cX12_rises 157 = .ok (.aload_n 0, 1) := by decide +kernel
theorem dX12_rises_158 : decode cX12_rises 158 = .ok (.getfield 33, 3) := by decide +kernel
theorem dX12_rises_161 : decode cX12_rises 161 = .ok (.sipush 146, 3) := by decide +kernel
theorem dX12_rises_164 : decode cX12_rises 164 = .ok (.iload_n 1, 1) := by decide +kernel
theorem dX12_rises_165 : decode cX12_rises 165 = .ok (.iadd, 1) := by decide +kernel
theorem dX12_rises_166 : decode cX12_rises 166 = .ok (.iaload, 1) := by decide +kernel
theorem dX12_rises_167 : decode cX12_rises 167 = .ok (.iconst 1, 1) := by decide +kernel
theorem dX12_rises_168 : decode cX12_rises 168 = .ok (.isub, 1) := by decide +kernel
theorem dX12_rises_169 : decode cX12_rises 169 = .ok (.invokevirtual 304, 3) := by decide +kernel
theorem dX12_rises_172 : decode cX12_rises 172 = .ok (.iinc 1 1, 3) := by decide +kernel
theorem dX12_rises_175 : decode cX12_rises 175 = .ok (.goto (-43), 3) := by decide +kernel
theorem dX12_rises_178 : decode cX12_rises 178 = .ok (.aload_n 0, 1) := by decide +kernel
theorem dX12_rises_179 : decode cX12_rises 179 = .ok (.getfield 33, 3) := by decide +kernel
theorem dX12_rises_182 : decode cX12_rises 182 = .ok (.sipush 140, 3) := by decide +kernel
theorem dX12_rises_185 : decode cX12_rises 185 = .ok (.dup2, 1) := by decide +kernel
theorem dX12_rises_186 : decode cX12_rises 186 = .ok (.iaload, 1) := by decide +kernel
theorem dX12_rises_187 : decode cX12_rises 187 = .ok (.iconst 1, 1) := by decide +kernel
theorem dX12_rises_188 : decode cX12_rises 188 = .ok (.iadd, 1) := by decide +kernel
theorem dX12_rises_189 : decode cX12_rises 189 = .ok (.iastore, 1) := by decide +kernel
theorem dX12_rises_190 : decode cX12_rises 190 = .ok (.aload_n 0, 1) := by decide +kernel
theorem dX12_rises_191 : decode cX12_rises 191 = .ok (.getfield 33, 3) := by decide +kernel
theorem dX12_rises_194 : decode cX12_rises 194 = .ok (.sipush 179, 3) := by decide +kernel
theorem dX12_rises_197 : decode cX12_rises 197 = .ok (.iconst 0, 1) := by decide +kernel
theorem dX12_rises_198 : decode cX12_rises 198 = .ok (.iastore, 1) := by decide +kernel
theorem dX12_rises_199 : decode cX12_rises 199 = .ok (.aload_n 0, 1) := by decide +kernel
theorem dX12_rises_200 : decode cX12_rises 200 = .ok (.invokevirtual 308, 3) := by decide +kernel
theorem dX12_rises_203 : decode cX12_rises 203 = .ok (.return_, 1) := by decide +kernel
set_option maxRecDepth 100000 in
set_option maxHeartbeats 4000000 in
theorem hk_12_rises (hF : ck_LKf ck_LK) (hM : ck_LKm ck_tags ck_LK ck_tab) (hU : ck_uq ty ck_pvs0) (hun : ck_un ty) (hX : ck_ExP ty ck_protA Ex) (hH : ∀ j, j < 220 → ck_Holds l D cys ty ck_tags ck_pvs0 Ex (ck_tab j)) : ck_Holds l D cys ty ck_tags ck_pvs0 Ex (ck_tab 220) := by
  refine cm_enter (by decide +kernel) (by decide +kernel) (by decide +kernel) ?_
  intro vs pvv0 p e s m below meth c ls ha hp B hl hW
  have hx := B.1
  have hb : c.code = cX12_rises := B.2.1
  have hI := pv_inj
  have hS : va_S (ck_own ty) s.heap s.heap [] := va_S.rf
  obtain ⟨_, rfl, ⟨a0, rfl, t0⟩⟩ := cm_a1 ha
  have hl : lv_has ls 3 [(0, .ref a0)] := hl
  have hp0 := hp
  have hp := hr_wk hp0 (Q := pPM) (by decide +kernel)
  have q0 := hr_pd hp0 16 17 (lo := 0) (hi := 5) (a := -6) (b := -1) rfl (by decide)
  have q1 := hr_pv hp0 16 (lo := 0) (hi := 5) rfl
  have loop2 : ∀ (n132 : Nat) (i : Int32) (ls : Array Slot) (H : Heap) (locs : List Loc), 8 - i.toInt < n132 → (0 ≤ i.toInt) → (i.toInt ≤ 8) → lv_has ls 3 [(1, .int i), (0, .ref a0)] → ck_Wo D cys ty ck_tags ck_pvs0 Ex pvv0 H → va_S (ck_own ty) s.heap H locs → W p l e (ck_rm (ck_tab 220)) s m [Value.ref a0].toArray below meth c H locs 0 0 (MQ below (ck_Qc D cys ty ck_tags ck_pvs0 Ex (ck_tab 220) [Value.ref a0] pvv0) [Value.ref a0].toArray s 0 0 (ck_own ty)) (F0 m 132 ls []) := by
    intro n132
    induction n132 with
    | zero => intro i ls H locs hm132 i1 i2 hl hW hS; omega
    | succ n132 ih132 =>
      intro i ls H locs hm132 i1 i2 hl hW hS
      refine lv_iload_n hx hb dX12_rises_132 rfl (lv_at hl 0 rfl) ?_
      refine lv_aload_n hx hb dX12_rises_133 rfl (lv_at hl 1 rfl) ?_
      refine hr_getR B hF hb hW (ci := 12) (j := 6) (cd := 3) t0 rfl (isF (by decide +kernel)) rfl dX12_rises_134 (fun az134 tz134 xz134 => ?_)
      refine hr_ic hx hb dX12_rises_137 (by decide) (fun z137 hz137 => ?_)
      refine hr_iald B hb hW tz134 rfl (by omega) (by omega) dX12_rises_138 (fun z138 iz138 pz138 xz138 => ?_)
      have iz138 := hr_inr iz138 (a := 2) (b := 2) (lo := 0) (hi := 8) (by omega) (by omega) (by decide +kernel)
      refine hr_ge (tgt := 178) hx hb dX12_rises_139 (by decide) (fun h139 => ?_) (fun h139 => ?_)
      · refine lv_aload_n hx hb dX12_rises_178 rfl (lv_at hl 1 rfl) ?_
        refine hr_getR B hF hb hW (ci := 12) (j := 6) (cd := 3) t0 rfl (isF (by decide +kernel)) rfl dX12_rises_179 (fun az179 tz179 xz179 => ?_)
        refine hr_sp hx hb dX12_rises_182 (by decide) (by decide) (fun z182 hz182 => ?_)
        refine lv_dup2_11 hx hb dX12_rises_185 rfl rfl ?_
        refine hr_iald B hb hW tz179 rfl (by omega) (by omega) dX12_rises_186 (fun z186 iz186 pz186 xz186 => ?_)
        have iz186 := hr_inr iz186 (a := 140) (b := 140) (lo := 0) (hi := 6) (by omega) (by omega) (by decide +kernel)
        have pz186 := congrArg Int32.toInt (pz186 16 (by rw [show z182.toInt.toNat = 140 by omega]; rfl))
        refine hr_ic hx hb dX12_rises_187 (by decide) (fun z187 hz187 => ?_)
        refine hr_add hx hb dX12_rises_188 (by omega) (by omega) (fun z188 hz188 => ?_)
        refine hr_iastP B hb hU hW hS tz179 rfl (by omega) (by omega) (hr_ins (a := 140) (b := 140) (lo := 0) (hi := 6) (by omega) (by omega) (by decide +kernel) (by omega) (by omega)) (hr_EA (i := z182) hX tz179 (u := 140) (v := 140) (by omega) (by omega) (by decide)) hI (q0 := 16) (w := 140) (by omega) rfl dX12_rises_189 (fun H locs hW hS => ?_)
        obtain ⟨pvv189, e189⟩ : ∃ f, f = upd pvv0 16 z188 := ⟨_, rfl⟩
        rw [← e189] at hW
        have e189q : pvv189 16 = z188 := by rw [e189, pk_us]
        have e189qi := congrArg Int32.toInt e189q
        have hp := hr_updD hp (q := 16) (lo := 0) (hi := 6) rfl (x := z188) (by omega) (by omega) (fun d hd => by obtain rfl := List.mem_singleton.mp hd; show (-6 : Int) ≤ z188.toInt - (pvv0 17).toInt ∧ z188.toInt - (pvv0 17).toInt ≤ 0; omega) (by decide +kernel); rw [← e189] at hp
        refine lv_aload_n hx hb dX12_rises_190 rfl (lv_at hl 1 rfl) ?_
        refine hr_getR B hF hb hW (ci := 12) (j := 6) (cd := 3) t0 rfl (isF (by decide +kernel)) rfl dX12_rises_191 (fun az191 tz191 xz191 => ?_)
        refine hr_sp hx hb dX12_rises_194 (by decide) (by decide) (fun z194 hz194 => ?_)
        refine hr_ic hx hb dX12_rises_197 (by decide) (fun z197 hz197 => ?_)
        refine hr_iastN B hb hU hW hS tz191 rfl (by omega) (by omega) (hr_ins (a := 179) (b := 179) (lo := -2147483648) (hi := 2147483647) (by omega) (by omega) (by decide +kernel) (ck_lo _) (ck_hi _)) (hr_EA (i := z194) hX tz191 (u := 179) (v := 179) (by omega) (by omega) (by decide)) (u := 179) (v := 179) (by omega) (by omega) (by decide) dX12_rises_198 (fun H locs hW hS => ?_)
        refine lv_aload_n hx hb dX12_rises_199 rfl (lv_at hl 1 rfl) ?_
        refine cm_callV (kc := kc_216) B rfl hb hl (hM.1 _ _ 0 [216] (isM (by decide +kernel)) 216 (by decide)) (hH 216 (by decide)) (b := a0) (As := []) ⟨hr_aR t0, True.intro⟩ hp hW hS rfl (by decide) (by decide) (Nat.le_of_ble_eq_true rfl) dX12_rises_200 (fun cs hcs r pvv200 H locs hca hW hS => ?_)
        obtain rfl := List.mem_singleton.mp hcs
        obtain ⟨hr, hq, hc⟩ := hca
        obtain rfl := hr_rv0 hr
        have hW := hr_pvE (hr_sameA hc rfl (by decide +kernel)) hW
        refine cm_vret B hb rfl ⟨_, List.mem_cons_self, True.intro, (fun q h => nomatch h), ?_⟩ hW hS dX12_rises_203
        refine hr_set1 (P := pU) (f := pvv0) (j := 16) ?_ (hr_vd (q := 16) (lo := 0) (hi := 6) (a := 1) (b := 1) (by rw [e189q]; omega) (by rw [e189q]; omega) (by rw [e189q]; omega) (by rw [e189q]; omega)) (fun i hi => by rw [e189]; exact pk_un hi)
        exact hr_wk (hr_self hp0) (by decide +kernel)
      · refine lv_aload_n hx hb dX12_rises_142 rfl (lv_at hl 1 rfl) ?_
        refine hr_getR B hF hb hW (ci := 12) (j := 6) (cd := 3) t0 rfl (isF (by decide +kernel)) rfl dX12_rises_143 (fun az143 tz143 xz143 => ?_)
        refine hr_sp hx hb dX12_rises_146 (by decide) (by decide) (fun z146 hz146 => ?_)
        refine lv_iload_n hx hb dX12_rises_149 rfl (lv_at hl 0 rfl) ?_
        refine hr_add hx hb dX12_rises_150 (by omega) (by omega) (fun z150 hz150 => ?_)
        obtain ⟨f, hW⟩ := hr_trk hW tz143 rfl (by decide)
        refine hr_iald B hb hW tz143 rfl (by omega) (by omega) dX12_rises_151 (fun z151 iz151 pz151 xz151 => ?_)
        have iz151 := hr_inr iz151 (a := 146) (b := 153) (lo := 0) (hi := 6) (by omega) (by omega) (by decide +kernel)
        have y151 := ta_xa xz151 (by omega)
        refine hr_le0 (tgt := 172) hx hb dX12_rises_152 (by decide) (fun h152 => ?_) (fun h152 => ?_)
        · have hW := hr_mono (fun _ h => h.1) hW
          refine hr_inc hx hb dX12_rises_172 hl (kq := 0) (lv' := fun v => [(1, .int v), (0, .ref a0)]) rfl (by decide) (by decide) (by omega) (by omega) (fun _ => rfl) (fun z172 ls hz172 hl => ?_)
          refine lv_goto (tgt := 132) hx hb dX12_rises_175 (by decide) ?_
          exact ih132 z172 _ _ _ (by omega) (by omega) (by omega) hl hW hS
        · refine lv_aload_n hx hb dX12_rises_155 rfl (lv_at hl 1 rfl) ?_
          refine lv_iload_n hx hb dX12_rises_156 rfl (lv_at hl 0 rfl) ?_
          refine lv_aload_n hx hb dX12_rises_157 rfl (lv_at hl 1 rfl) ?_
          refine hr_getR B hF hb hW (ci := 12) (j := 6) (cd := 3) t0 rfl (isF (by decide +kernel)) rfl dX12_rises_158 (fun az158 tz158 xz158 => ?_)
          refine hr_sp hx hb dX12_rises_161 (by decide) (by decide) (fun z161 hz161 => ?_)
          refine lv_iload_n hx hb dX12_rises_164 rfl (lv_at hl 0 rfl) ?_
          refine hr_add hx hb dX12_rises_165 (by omega) (by omega) (fun z165 hz165 => ?_)
          obtain rfl := hun 34 (by decide) _ _ tz158 tz143
          refine hr_iald B hb hW tz158 rfl (by omega) (by omega) dX12_rises_166 (fun z166 iz166 pz166 xz166 => ?_)
          have iz166 := hr_inr iz166 (a := 146) (b := 153) (lo := 0) (hi := 6) (by omega) (by omega) (by decide +kernel)
          have y166 := ta_xa xz166 (by omega)
          have z165e : z165.toInt.toNat = z150.toInt.toNat := by omega
          rw [z165e, ← y151] at y166
          have y166 : z166.toInt = z151.toInt := by rw [y166]
          have hW := hr_mono (fun _ h => h.1) hW
          refine hr_ic hx hb dX12_rises_167 (by decide) (fun z167 hz167 => ?_)
          refine hr_sub hx hb dX12_rises_168 (by omega) (by omega) (fun z168 hz168 => ?_)
          refine cm_callV (kc := kc_219) B rfl hb hl (hM.1 _ _ 0 [219] (isM (by decide +kernel)) 219 (by decide)) (hH 219 (by decide)) (b := a0) (As := [.int i, .int z168]) ⟨hr_aR t0, hr_aI (by omega) (by omega), hr_aI (by omega) (by omega), True.intro⟩ hp hW hS rfl (by decide) (by decide) (Nat.le_of_ble_eq_true rfl) dX12_rises_169 (fun cs hcs r pvv169 H locs hca hW hS => ?_)
          obtain rfl := List.mem_singleton.mp hcs
          obtain ⟨hr, hq, hc⟩ := hca
          obtain rfl := hr_rv0 hr
          have hW := hr_pvE (hr_sameA hc rfl (by decide +kernel)) hW
          refine hr_inc hx hb dX12_rises_172 hl (kq := 0) (lv' := fun v => [(1, .int v), (0, .ref a0)]) rfl (by decide) (by decide) (by omega) (by omega) (fun _ => rfl) (fun z172 ls hz172 hl => ?_)
          refine lv_goto (tgt := 132) hx hb dX12_rises_175 (by decide) ?_
          exact ih132 z172 _ _ _ (by omega) (by omega) (by omega) hl hW hS
  have loop1 : ∀ (n2 : Nat) (i : Int32) (ls : Array Slot) (H : Heap) (locs : List Loc), 8 - i.toInt < n2 → (0 ≤ i.toInt) → (i.toInt ≤ 8) → lv_has ls 3 [(1, .int i), (0, .ref a0)] → ck_Wo D cys ty ck_tags ck_pvs0 Ex pvv0 H → va_S (ck_own ty) s.heap H locs → W p l e (ck_rm (ck_tab 220)) s m [Value.ref a0].toArray below meth c H locs 0 0 (MQ below (ck_Qc D cys ty ck_tags ck_pvs0 Ex (ck_tab 220) [Value.ref a0] pvv0) [Value.ref a0].toArray s 0 0 (ck_own ty)) (F0 m 2 ls []) := by
    intro n2
    induction n2 with
    | zero => intro i ls H locs hm2 i1 i2 hl hW hS; omega
    | succ n2 ih2 =>
      intro i ls H locs hm2 i1 i2 hl hW hS
      refine lv_iload_n hx hb dX12_rises_2 rfl (lv_at hl 0 rfl) ?_
      refine lv_aload_n hx hb dX12_rises_3 rfl (lv_at hl 1 rfl) ?_
      refine hr_getR B hF hb hW (ci := 12) (j := 6) (cd := 3) t0 rfl (isF (by decide +kernel)) rfl dX12_rises_4 (fun az4 tz4 xz4 => ?_)
      refine hr_ic hx hb dX12_rises_7 (by decide) (fun z7 hz7 => ?_)
      refine hr_iald B hb hW tz4 rfl (by omega) (by omega) dX12_rises_8 (fun z8 iz8 pz8 xz8 => ?_)
      have iz8 := hr_inr iz8 (a := 2) (b := 2) (lo := 0) (hi := 8) (by omega) (by omega) (by decide +kernel)
      refine hr_ge (tgt := 118) hx hb dX12_rises_9 (by decide) (fun h9 => ?_) (fun h9 => ?_)
      · refine lv_aload_n hx hb dX12_rises_118 rfl (lv_at hl 1 rfl) ?_
        refine hr_getR B hF hb hW (ci := 12) (j := 6) (cd := 3) t0 rfl (isF (by decide +kernel)) rfl dX12_rises_119 (fun az119 tz119 xz119 => ?_)
        refine hr_sp hx hb dX12_rises_122 (by decide) (by decide) (fun z122 hz122 => ?_)
        refine lv_aload_n hx hb dX12_rises_125 rfl (lv_at hl 1 rfl) ?_
        refine cm_callV (kc := kc_217) B rfl hb hl (hM.1 _ _ 0 [217] (isM (by decide +kernel)) 217 (by decide)) (hH 217 (by decide)) (b := a0) (As := []) ⟨hr_aR t0, True.intro⟩ hp hW hS rfl (by decide) (by decide) (Nat.le_of_ble_eq_true rfl) dX12_rises_126 (fun cs hcs r pvv126 H locs hca hW hS => ?_)
        obtain rfl := List.mem_singleton.mp hcs
        obtain ⟨hr, hq, hc⟩ := hca
        obtain ⟨z126, rfl, lz126, uz126⟩ := hr_rvI hr
        have hW := hr_pvE (hr_sameA hc rfl (by decide +kernel)) hW
        refine hr_iastN B hb hU hW hS tz119 rfl (by omega) (by omega) (hr_ins (a := 178) (b := 178) (lo := -2147483648) (hi := 2147483647) (by omega) (by omega) (by decide +kernel) (ck_lo _) (ck_hi _)) (hr_EA (i := z122) hX tz119 (u := 178) (v := 178) (by omega) (by omega) (by decide)) (u := 178) (v := 178) (by omega) (by omega) (by decide) dX12_rises_129 (fun H locs hW hS => ?_)
        refine hr_ic hx hb dX12_rises_130 (by decide) (fun z130 hz130 => ?_)
        refine lv_istore_n hx hb dX12_rises_131 rfl hl (lv' := [(1, .int z130), (0, .ref a0)]) (by decide) rfl (fun ls hl => ?_)
        exact loop2 9 z130 _ _ _ (by omega) (by omega) (by omega) hl hW hS
      · refine lv_aload_n hx hb dX12_rises_12 rfl (lv_at hl 1 rfl) ?_
        refine hr_getR B hF hb hW (ci := 12) (j := 6) (cd := 3) t0 rfl (isF (by decide +kernel)) rfl dX12_rises_13 (fun az13 tz13 xz13 => ?_)
        refine hr_sp hx hb dX12_rises_16 (by decide) (by decide) (fun z16 hz16 => ?_)
        refine lv_iload_n hx hb dX12_rises_19 rfl (lv_at hl 0 rfl) ?_
        refine hr_add hx hb dX12_rises_20 (by omega) (by omega) (fun z20 hz20 => ?_)
        refine hr_iald B hb hW tz13 rfl (by omega) (by omega) dX12_rises_21 (fun z21 iz21 pz21 xz21 => ?_)
        have iz21 := hr_inr iz21 (a := 146) (b := 153) (lo := 0) (hi := 6) (by omega) (by omega) (by decide +kernel)
        refine hr_le0 (tgt := 28) hx hb dX12_rises_22 (by decide) (fun h22 => ?_) (fun h22 => ?_)
        · refine lv_aload_n hx hb dX12_rises_28 rfl (lv_at hl 1 rfl) ?_
          refine hr_getR B hF hb hW (ci := 12) (j := 6) (cd := 3) t0 rfl (isF (by decide +kernel)) rfl dX12_rises_29 (fun az29 tz29 xz29 => ?_)
          refine hr_sp hx hb dX12_rises_32 (by decide) (by decide) (fun z32 hz32 => ?_)
          refine lv_dup2_11 hx hb dX12_rises_35 rfl rfl ?_
          refine hr_iald B hb hW tz29 rfl (by omega) (by omega) dX12_rises_36 (fun z36 iz36 pz36 xz36 => ?_)
          refine lv_aload_n hx hb dX12_rises_37 rfl (lv_at hl 1 rfl) ?_
          refine hr_getR B hF hb hW (ci := 12) (j := 6) (cd := 3) t0 rfl (isF (by decide +kernel)) rfl dX12_rises_38 (fun az38 tz38 xz38 => ?_)
          refine hr_bp hx hb dX12_rises_41 (by decide) (by decide) (fun z41 hz41 => ?_)
          refine lv_iload_n hx hb dX12_rises_43 rfl (lv_at hl 0 rfl) ?_
          refine hr_add hx hb dX12_rises_44 (by omega) (by omega) (fun z44 hz44 => ?_)
          refine hr_iald B hb hW tz38 rfl (by omega) (by omega) dX12_rises_45 (fun z45 iz45 pz45 xz45 => ?_)
          refine lv_iadd hx hb dX12_rises_46 (lv_topi (fun z46 hz46 => ?_))
          refine hr_iastN B hb hU hW hS tz29 rfl (by omega) (by omega) (hr_ins (a := 144) (b := 144) (lo := -2147483648) (hi := 2147483647) (by omega) (by omega) (by decide +kernel) (ck_lo _) (ck_hi _)) (hr_EA (i := z32) hX tz29 (u := 144) (v := 144) (by omega) (by omega) (by decide)) (u := 144) (v := 144) (by omega) (by omega) (by decide) dX12_rises_47 (fun H locs hW hS => ?_)
          refine lv_aload_n hx hb dX12_rises_48 rfl (lv_at hl 1 rfl) ?_
          refine hr_getR B hF hb hW (ci := 12) (j := 6) (cd := 3) t0 rfl (isF (by decide +kernel)) rfl dX12_rises_49 (fun az49 tz49 xz49 => ?_)
          refine hr_sp hx hb dX12_rises_52 (by decide) (by decide) (fun z52 hz52 => ?_)
          refine lv_iload_n hx hb dX12_rises_55 rfl (lv_at hl 0 rfl) ?_
          refine hr_add hx hb dX12_rises_56 (by omega) (by omega) (fun z56 hz56 => ?_)
          refine lv_dup2_11 hx hb dX12_rises_57 rfl rfl ?_
          refine hr_iald B hb hW tz49 rfl (by omega) (by omega) dX12_rises_58 (fun z58 iz58 pz58 xz58 => ?_)
          refine lv_aload_n hx hb dX12_rises_59 rfl (lv_at hl 1 rfl) ?_
          refine lv_aload_n hx hb dX12_rises_60 rfl (lv_at hl 1 rfl) ?_
          refine hr_getR B hF hb hW (ci := 12) (j := 6) (cd := 3) t0 rfl (isF (by decide +kernel)) rfl dX12_rises_61 (fun az61 tz61 xz61 => ?_)
          refine hr_sp hx hb dX12_rises_64 (by decide) (by decide) (fun z64 hz64 => ?_)
          refine hr_iald B hb hW tz61 rfl (by omega) (by omega) dX12_rises_67 (fun z67 iz67 pz67 xz67 => ?_)
          have iz67 := hr_inr iz67 (a := 140) (b := 140) (lo := 0) (hi := 6) (by omega) (by omega) (by decide +kernel)
          have pz67 := congrArg Int32.toInt (pz67 16 (by rw [show z64.toInt.toNat = 140 by omega]; rfl))
          refine cm_callV (kc := kc_177) B rfl hb hl (hM.1 _ _ 0 [177] (isM (by decide +kernel)) 177 (by decide)) (hH 177 (by decide)) (b := a0) (As := [.int z67]) ⟨hr_aR t0, hr_aF, True.intro⟩ hp hW hS rfl (by decide) (by decide) (Nat.le_of_ble_eq_true rfl) dX12_rises_68 (fun cs hcs r pvv68 H locs hca hW hS => ?_)
          obtain rfl := List.mem_singleton.mp hcs
          obtain ⟨hr, hq, hc⟩ := hca
          obtain ⟨z68, rfl, lz68, uz68⟩ := hr_rvI hr
          have hW := hr_pvE (hr_sameA hc rfl (by decide +kernel)) hW
          refine lv_ior hx hb dX12_rises_71 (lv_topi (fun z71 hz71 => ?_))
          refine hr_iastN B hb hU hW hS tz49 rfl (by omega) (by omega) (hr_ins (a := 154) (b := 161) (lo := -2147483648) (hi := 2147483647) (by omega) (by omega) (by decide +kernel) (ck_lo _) (ck_hi _)) (hr_EA (i := z56) hX tz49 (u := 154) (v := 161) (by omega) (by omega) (by decide)) (u := 154) (v := 161) (by omega) (by omega) (by decide) dX12_rises_72 (fun H locs hW hS => ?_)
          refine lv_aload_n hx hb dX12_rises_73 rfl (lv_at hl 1 rfl) ?_
          refine lv_iload_n hx hb dX12_rises_74 rfl (lv_at hl 0 rfl) ?_
          refine cm_callV (kc := kc_218) B rfl hb hl (hM.1 _ _ 0 [218] (isM (by decide +kernel)) 218 (by decide)) (hH 218 (by decide)) (b := a0) (As := [.int i]) ⟨hr_aR t0, hr_aI (by omega) (by omega), True.intro⟩ hp hW hS rfl (by decide) (by decide) (Nat.le_of_ble_eq_true rfl) dX12_rises_75 (fun cs hcs r pvv75 H locs hca hW hS => ?_)
          obtain rfl := List.mem_singleton.mp hcs
          obtain ⟨hr, hq, hc⟩ := hca
          obtain ⟨z75, rfl, lz75, uz75⟩ := hr_rvI hr
          have hW := hr_pvE (hr_sameA hc rfl (by decide +kernel)) hW
          refine lv_istore_n hx hb dX12_rises_78 rfl hl (lv' := [(2, .int z75), (1, .int i), (0, .ref a0)]) (by decide) rfl (fun ls hl => ?_)
          refine lv_iload_n hx hb dX12_rises_79 rfl (lv_at hl 0 rfl) ?_
          refine hr_ge0 (tgt := 86) hx hb dX12_rises_80 (by decide) (fun h80 => ?_) (fun h80 => ?_)
          · refine lv_aload_n hx hb dX12_rises_86 rfl (lv_at hl 2 rfl) ?_
            refine hr_getR B hF hb hW (ci := 12) (j := 6) (cd := 3) t0 rfl (isF (by decide +kernel)) rfl dX12_rises_87 (fun az87 tz87 xz87 => ?_)
            refine hr_sp hx hb dX12_rises_90 (by decide) (by decide) (fun z90 hz90 => ?_)
            refine lv_iload_n hx hb dX12_rises_93 rfl (lv_at hl 0 rfl) ?_
            refine hr_add hx hb dX12_rises_94 (by omega) (by omega) (fun z94 hz94 => ?_)
            refine lv_dup2_11 hx hb dX12_rises_95 rfl rfl ?_
            refine hr_iald B hb hW tz87 rfl (by omega) (by omega) dX12_rises_96 (fun z96 iz96 pz96 xz96 => ?_)
            refine hr_ic hx hb dX12_rises_97 (by decide) (fun z97 hz97 => ?_)
            refine lv_iadd hx hb dX12_rises_98 (lv_topi (fun z98 hz98 => ?_))
            refine hr_iastN B hb hU hW hS tz87 rfl (by omega) (by omega) (hr_ins (a := 170) (b := 177) (lo := -2147483648) (hi := 2147483647) (by omega) (by omega) (by decide +kernel) (ck_lo _) (ck_hi _)) (hr_EA (i := z94) hX tz87 (u := 170) (v := 177) (by omega) (by omega) (by decide)) (u := 170) (v := 177) (by omega) (by omega) (by decide) dX12_rises_99 (fun H locs hW hS => ?_)
            refine lv_aload_n hx hb dX12_rises_100 rfl (lv_at hl 2 rfl) ?_
            refine hr_getR B hF hb hW (ci := 12) (j := 6) (cd := 3) t0 rfl (isF (by decide +kernel)) rfl dX12_rises_101 (fun az101 tz101 xz101 => ?_)
            refine hr_sp hx hb dX12_rises_104 (by decide) (by decide) (fun z104 hz104 => ?_)
            refine lv_dup2_11 hx hb dX12_rises_107 rfl rfl ?_
            refine hr_iald B hb hW tz101 rfl (by omega) (by omega) dX12_rises_108 (fun z108 iz108 pz108 xz108 => ?_)
            refine hr_ic hx hb dX12_rises_109 (by decide) (fun z109 hz109 => ?_)
            refine lv_iadd hx hb dX12_rises_110 (lv_topi (fun z110 hz110 => ?_))
            refine hr_iastN B hb hU hW hS tz101 rfl (by omega) (by omega) (hr_ins (a := 145) (b := 145) (lo := -2147483648) (hi := 2147483647) (by omega) (by omega) (by decide +kernel) (ck_lo _) (ck_hi _)) (hr_EA (i := z104) hX tz101 (u := 145) (v := 145) (by omega) (by omega) (by decide)) (u := 145) (v := 145) (by omega) (by omega) (by decide) dX12_rises_111 (fun H locs hW hS => ?_)
            refine hr_inc hx hb dX12_rises_112 hl (kq := 1) (lv' := fun v => [(1, .int v), (2, .int z75), (0, .ref a0)]) rfl (by decide) (by decide) (by omega) (by omega) (fun _ => rfl) (fun z112 ls hz112 hl => ?_)
            refine lv_goto (tgt := 2) hx hb dX12_rises_115 (by decide) ?_
            exact ih2 z112 _ _ _ (by omega) (by omega) (by omega) (lv_sub hl [0, 2] rfl) hW hS
          · refine lv_goto (tgt := 112) hx hb dX12_rises_83 (by decide) ?_
            refine hr_inc hx hb dX12_rises_112 hl (kq := 1) (lv' := fun v => [(1, .int v), (2, .int z75), (0, .ref a0)]) rfl (by decide) (by decide) (by omega) (by omega) (fun _ => rfl) (fun z112 ls hz112 hl => ?_)
            refine lv_goto (tgt := 2) hx hb dX12_rises_115 (by decide) ?_
            exact ih2 z112 _ _ _ (by omega) (by omega) (by omega) (lv_sub hl [0, 2] rfl) hW hS
        · refine lv_goto (tgt := 112) hx hb dX12_rises_25 (by decide) ?_
          refine hr_inc hx hb dX12_rises_112 hl (kq := 0) (lv' := fun v => [(1, .int v), (0, .ref a0)]) rfl (by decide) (by decide) (by omega) (by omega) (fun _ => rfl) (fun z112 ls hz112 hl => ?_)
          refine lv_goto (tgt := 2) hx hb dX12_rises_115 (by decide) ?_
          exact ih2 z112 _ _ _ (by omega) (by omega) (by omega) hl hW hS
  refine hr_ic hx hb dX12_rises_0 (by decide) (fun z0 hz0 => ?_)
  refine lv_istore_n hx hb dX12_rises_1 rfl hl (lv' := [(1, .int z0), (0, .ref a0)]) (by decide) rfl (fun ls hl => ?_)
  exact loop1 9 z0 _ _ _ (by omega) (by omega) (by omega) hl hW hS
end H23
end
section
/-! BY HAND, 6: prices; clap and endAct, whose row of men is read again behind calls. -/
section H24
variable {l : Launch} {D : va_G} {cys : Nat → ClassId} {ty : Nat → Option Nat} {tg : List ck_TD} {pvT : List (Nat × Nat)} {Ex : va_W → Prop} {pvv : Nat → Int32} {H : Heap} {prot prot' : Nat → List (Nat × Nat)}
theorem ExP_mono (hs : ∀ t j, ck_pr (prot t) j → ck_pr (prot' t) j) (hl : ∀ t, prot' t = [] → prot t = []) (hX : ck_ExP ty prot Ex) : ck_ExP ty prot' Ex := by
  intro ws q a t en en' hD hq hta hag hE
  refine hX ws q a t en en' hD hq hta ?_ hE
  match en, en', hag with
  | .inr o1, .inr o2, hag => exact ⟨hag.1, hag.2.1, fun k hk => hag.2.2 k (hs t k hk)⟩
  | .inl a1, .inl a2, hag =>
    obtain ⟨h1, h2, h3⟩ := hag
    refine ⟨h1, h2, ?_⟩
    obtain ⟨b1, b2, b3⟩ := a1
    obtain ⟨d1, d2, d3⟩ := a2
    match b3, d3, h3 with
    | .inl f, .inl g, h3 => exact fun k hk => h3 k (hs t k hk)
    | .inr (.inl _), .inr (.inl _), h3 => exact hl t h3
theorem ExP_and {Ex' : va_W → Prop} (h1 : ck_ExP ty prot Ex) (h2 : ck_ExP ty prot Ex') : ck_ExP ty prot (fun ws => Ex ws ∧ Ex' ws) := fun ws q a t en en' hD hq hta hag hE => ⟨h1 ws q a t en en' hD hq hta hag hE.1, h2 ws q a t en en' hD hq hta hag hE.2⟩
def te (a0 a8 : Nat) (cy : ClassId) (f : Nat → Int32) (ws : va_W) : Prop := (∃ (q : Nat) (fs : List Value), ws[q]? = some (a0, .inr (2, fs)) ∧ fs[8]? = some (.ref a8)) ∧ ta a8 cy 6 f ws
theorem hr_trf (hW : ck_Wo D cys ty ck_tags pvT Ex pvv H) {a0 : Nat} (hta : ty a0 = some 2) : ∃ (a8 : Nat) (f : Nat → Int32), ty a8 = some 26 ∧ ck_Wo D cys ty ck_tags pvT (fun ws => Ex ws ∧ te a0 a8 (cys 0) f ws) pvv H := by
  obtain ⟨ws, h1, h2, h3, h4, h5⟩ := hW
  obtain ⟨q0, fs0, g0, -, f0⟩ := cm_obj h3 hta rfl
  obtain ⟨_, e8, a8, rfl, t8⟩ := f0 8 _ rfl
  obtain ⟨q, f, g1, -⟩ := ck_arrI h3 t8 rfl (by decide)
  exact ⟨a8, f, t8, ws, h1, h2, h3, h4, h5, ⟨q0, fs0, g0, e8⟩, q, f, g1, fun _ _ => rfl⟩
theorem te_xo {a0 a8 a : Nat} {cy : ClassId} {f : Nat → Int32} (h : hr_xo ty (fun ws => Ex ws ∧ te a0 a8 cy f ws) a0 2 8 (.ref a)) : a8 = a := by
  obtain ⟨ws, q, fs, h1, h2, h3, h4⟩ := h
  obtain ⟨q', fs', h5, h6⟩ := h2.2.1
  have h7 := (ck_D1 h1 h3 h5).2
  cases h7
  rw [h4] at h6
  cases h6
  rfl
theorem te_xa {a0 a8 i : Nat} {cy : ClassId} {f : Nat → Int32} {z : Int32} (h : hr_xa ty (fun ws => Ex ws ∧ te a0 a8 cy f ws) a8 cy 6 i z) (hi : i < 6) : z = f i := by
  obtain ⟨ws, q, g, h1, h2, h3, h4⟩ := h
  exact ta_xa (Ex := Ex) ⟨ws, q, g, h1, ⟨h2.1, h2.2.2⟩, h3, h4⟩ hi
theorem te_ExP {a0 a8 : Nat} {cy : ClassId} {f : Nat → Int32} (t0 : ty a0 = some 2) (t8 : ty a8 = some 26) : ck_ExP ty ck_protA (te a0 a8 cy f) := by
  intro ws q a t en en' hD hq hta hag hE
  have hlt : q < ws.length := (List.getElem?_eq_some_iff.mp hq).1
  obtain ⟨⟨q1, fs, h1, h2⟩, q2, g, h3, h4⟩ := hE
  refine ⟨?_, ?_⟩
  · by_cases e : q = q1
    · subst e
      rw [hq] at h1
      cases h1
      rw [t0] at hta
      cases hta
      match en', hag with
      | .inr o2, hag =>
        obtain ⟨c2, fs2⟩ := o2
        obtain ⟨w1, -, w3⟩ := hag
        dsimp only at w1 w3
        subst w1
        exact ⟨q, fs2, by rw [List.getElem?_set_self hlt], by rw [← w3 8 ⟨(8, 12), by decide, by decide, by decide⟩]; exact h2⟩
    · exact ⟨q1, fs, by rw [List.getElem?_set_ne e]; exact h1, h2⟩
  · by_cases e : q = q2
    · subst e
      rw [hq] at h3
      cases h3
      rw [t8] at hta
      cases hta
      match en', hag with
      | .inl o2, hag =>
        obtain ⟨c2, n2, d2⟩ := o2
        obtain ⟨w1, w2, w3⟩ := hag
        dsimp only at w1 w2 w3
        subst w1 w2
        match d2, w3 with
        | .inl g2, w3 => exact ⟨q, g2, by rw [List.getElem?_set_self hlt], fun j hj => by rw [← w3 j ⟨(0, 5), by decide, by dsimp only; omega, by dsimp only; omega⟩]; exact h4 j hj⟩
    · exact ⟨q2, g, by rw [List.getElem?_set_ne e]; exact h3, h4⟩
end H24
/-- the larger protects what the smaller does -/
theorem pr0A : ∀ t j, ck_pr (ck_prot0 t) j → ck_pr (ck_protA t) j := by
  intro t j h
  have key : ∀ t, t < 48 → (ck_prot0 t).all (fun q => (ck_protA t).contains q) = true := by decide
  by_cases ht : t < 48
  · obtain ⟨q, hq, h1⟩ := h
    exact ⟨q, by simpa using List.all_eq_true.mp (key t ht) q hq, h1⟩
  · exfalso
    obtain ⟨q, hq, -⟩ := h
    have : ck_prot0 t = [] := by
      unfold ck_prot0
      split <;> first | omega | rfl
    rw [this] at hq
    cases hq
theorem pr0Al : ∀ t, ck_protA t = [] → ck_prot0 t = [] := by
  intro t h
  match hq : ck_prot0 t with
  | [] => rfl
  | q :: r =>
    exfalso
    by_cases e : q.1 ≤ q.2
    · obtain ⟨q', h1, -⟩ := pr0A t q.1 ⟨q, by rw [hq]; exact List.mem_cons_self, Nat.le_refl _, e⟩
      rw [h] at h1
      cases h1
    · have key : ∀ t, t < 48 → (ck_prot0 t).all (fun q => decide (q.1 ≤ q.2)) = true := by decide
      by_cases ht : t < 48
      · have := List.all_eq_true.mp (key t ht) q (by rw [hq]; exact List.mem_cons_self)
        exact e (of_decide_eq_true this)
      · have : ck_prot0 t = [] := by
          unfold ck_prot0
          split <;> first | omega | rfl
        rw [this] at hq
        cases hq
section H24b
variable {l : Launch} {D : va_G} {cys : Nat → ClassId} {ty : Nat → Option Nat} {Ex : va_W → Prop}
theorem dX12_prices_0 : decode cX12_prices 0 = .ok (.aload_n 0, 1) := by decide +kernel
theorem dX12_prices_1 : decode cX12_prices 1 = .ok (.iconst 0, 1) := by decide +kernel
theorem dX12_prices_2 : decode cX12_prices 2 = .ok (.putfield 1, 3) := by decide +kernel
theorem dX12_prices_5 : decode cX12_prices 5 = .ok (.aload_n 0, 1) := by decide +kernel
theorem dX12_prices_6 : decode cX12_prices 6 = .ok (.invokevirtual 280, 3) := by decide +kernel
theorem dX12_prices_9 : decode cX12_prices 9 = .ok (.ifCond .eq 5, 3) := by decide +kernel
theorem dX12_prices_12 : decode cX12_prices 12 = .ok (.iconst (-1), 1) := by decide +kernel
theorem dX12_prices_13 : decode cX12_prices 13 = .ok (.ireturn, 1) := by decide +kernel
theorem dX12_prices_14 : decode cX12_prices 14 = .ok (.iconst 0, 1) := by decide +kernel
theorem dX12_prices_15 : decode cX12_prices 15 = .ok (.istore_n 1, 1) := by decide +kernel
theorem dX12_prices_16 : decode cX12_prices 16 = .ok (.iload_n 1, 1) := by decide +kernel
theorem dX12_prices_17 : decode cX12_prices 17 = .ok (.bipush 6, 2) := by decide +kernel
theorem dX12_prices_19 : decode cX12_prices 19 = .ok (.if_icmp .ge 16, 3) := by decide +kernel
theorem dX12_prices_22 : decode cX12_prices 22 = .ok (.aload_n 0, 1) := by decide +kernel
theorem dX12_prices_23 : decode cX12_prices 23 = .ok (.getfield 71, 3) := by decide +kernel
theorem dX12_prices_26 : decode cX12_prices 26 = .ok (.iload_n 1, 1) := by decide +kernel
theorem dX12_prices_27 : decode cX12_prices 27 = .ok (.iconst 0, 1) := by decide +kernel
theorem dX12_prices_28 : decode cX12_prices 28 = .ok (.iastore, 1) := by decide +kernel
theorem dX12_prices_29 : decode cX12_prices 29 = .ok (.iinc 1 1, 3) := by decide +kernel
theorem dX12_prices_32 : decode cX12_prices 32 = .ok (.goto (-16), 3) := by decide +kernel
theorem dX12_prices_35 : decode cX12_prices 35 = .ok (.iconst 0, 1) := by decide +kernel
theorem dX12_prices_36 : decode cX12_prices 36 = .ok (.istore_n 1, 1) := by decide +kernel
theorem dX12_prices_37 : decode cX12_prices 37 = .ok (.iconst 1, 1) := by decide +kernel
theorem dX12_prices_38 : decode cX12_prices 38 = .ok (.istore_n 2, 1) := by decide +kernel
theorem dX12_prices_39 : decode cX12_prices 39 = .ok (.iload_n 2, 1) := by decide +kernel
theorem dX12_prices_40 : decode cX12_prices 40 = .ok (.ifCond .eq 130, 3) := by decide +kernel
theorem dX12_prices_43 : decode cX12_prices 43 = .ok (.iload_n 1, 1) := by decide +kernel
theorem dX12_prices_44 : decode cX12_prices 44 = .ok (.bipush 99, 2) := by decide +kernel
theorem dX12_prices_46 : decode cX12_prices 46 = .ok (.if_icmp .ge 124, 3) := by decide +kernel
theorem dX12_prices_49 : decode cX12_prices 49 = .ok (.iconst 0, 1) := by decide +kernel
theorem dX12_prices_50 : decode cX12_prices 50 = .ok (.istore_n 2, 1) := by decide +kernel
theorem dX12_prices_51 : decode cX12_prices 51 = .ok (.iinc 1 1, 3) := by decide +kernel
theorem dX12_prices_54 : decode cX12_prices 54 = .ok (.iconst 0, 1) := by decide +kernel
theorem dX12_prices_55 : decode cX12_prices 55 = .ok (.istore_n 3, 1) := by decide +kernel
theorem dX12_prices_56 : decode cX12_prices 56 = .ok (.iload_n 3, 1) := by decide +kernel
theorem dX12_prices_57 : decode cX12_prices 57 = .ok (.bipush 6, 2) := by decide +kernel
theorem dX12_prices_59 : decode cX12_prices 59 = .ok (.if_icmp .ge 16, 3) := by decide +kernel
theorem dX12_prices_62 : decode cX12_prices 62 = .ok (.aload_n 0, 1) := by decide +kernel
theorem dX12_prices_63 : decode cX12_prices 63 = .ok (.getfield 77, 3) := by decide +kernel
theorem dX12_prices_66 : decode cX12_prices 66 = .ok (.iload_n 3, 1) := by decide +kernel
theorem dX12_prices_67 : decode cX12_prices 67 = .ok (.iconst 0, 1) := by decide +kernel
theorem dX12_prices_68 : decode cX12_prices 68 = .ok (.iastore, 1) := by decide +kernel
theorem dX12_prices_69 : decode cX12_prices 69 = .ok (.iinc 3 1, 3) := by decide +kernel
theorem dX12_prices_72 : decode cX12_prices 72 = .ok (.goto (-16), 3) := by decide +kernel
theorem dX12_prices_75 : decode cX12_prices 75 = .ok (.iconst 0, 1) := by decide +kernel
theorem dX12_prices_76 : decode cX12_prices 76 = .ok (.istore_n 3, 1) := by decide +kernel
theorem dX12_prices_77 : decode cX12_prices 77 = .ok (.iload_n 3, 1) := by decide +kernel
theorem dX12_prices_78 : decode cX12_prices 78 = .ok (.aload_n 0, 1) := by decide +kernel
theorem dX12_prices_79 : decode cX12_prices 79 = .ok (.getfield 33, 3) := by decide +kernel
theorem dX12_prices_82 : decode cX12_prices 82 = .ok (.iconst 2, 1) := by decide +kernel
theorem dX12_prices_83 : decode cX12_prices 83 = .ok (.iaload, 1) := by decide +kernel
theorem dX12_prices_84 : decode cX12_prices 84 = .ok (.if_icmp .ge 44, 3) := by decide +kernel
theorem dX12_prices_87 : decode cX12_prices 87 = .ok (.aload_n 0, 1) := by decide +kernel
theorem dX12_prices_88 : decode cX12_prices 88 = .ok (.getfield 74, 3) := by decide +kernel
theorem dX12_prices_91 : decode cX12_prices 91 = .ok (.iload_n 3, 1) := by decide +kernel
theorem dX12_prices_92 : decode cX12_prices 92 = .ok (.aload_n 0, 1) := by decide +kernel
theorem dX12_prices_93 : decode cX12_prices 93 = .ok (.iload_n 3, 1) := by decide +kernel
theorem dX12_prices_94 : decode cX12_prices 94 = .ok (.invokevirtual 364, 3) := by decide +kernel
theorem dX12_prices_97 : decode cX12_prices 97 = .ok (.iastore, 1) := by decide +kernel
theorem dX12_prices_98 : decode cX12_prices 98 = .ok (.aload_n 0, 1) := by decide +kernel
theorem dX12_prices_99 : decode cX12_prices 99 = .ok (.getfield 74, 3) := by decide +kernel
theorem dX12_prices_102 : decode cX12_prices 102 = .ok (.iload_n 3, 1) := by decide +kernel
theorem dX12_prices_103 : decode cX12_prices 103 = .ok (.iaload, 1) := by decide +kernel
theorem dX12_prices_104 : decode cX12_prices 104 = .ok (.ifCond .lt 18, 3) := by decide +kernel
theorem dX12_prices_107 : decode cX12_prices 107 = .ok (.aload_n 0, 1) := by decide +kernel
theorem dX12_prices_108 : decode cX12_prices 108 = .ok (.getfield 77, 3) := by decide +kernel
theorem dX12_prices_111 : decode cX12_prices 111 = .ok (.aload_n 0, 1) := by decide +kernel
theorem dX12_prices_112 : decode cX12_prices 112 = .ok (.getfield 74, 3) := by decide +kernel
theorem dX12_prices_115 : decode cX12_prices 115 = .ok (.iload_n 3, 1) := by decide +kernel
theorem dX12_prices_116 : decode cX12_prices 116 = .ok (.iaload, 1) := by decide +kernel
theorem dX12_prices_117 : decode cX12_prices 117 = .ok (.dup2, 1) := by decide +kernel
theorem dX12_prices_118 : decode cX12_prices 118 = .ok (.iaload, 1) := by decide +kernel
theorem dX12_prices_119 : decode cX12_prices 119 = .ok (.iconst 1, 1) := by decide +kernel
theorem dX12_prices_120 : decode cX12_prices 120 = .ok (.iadd, 1) := by decide +kernel
theorem dX12_prices_121 : decode cX12_prices 121 = .ok (.iastore, 1) := by decide +kernel
theorem dX12_prices_122 : decode cX12_prices 122 = .ok (.iinc 3 1, 3) := by decide +kernel
theorem dX12_prices_125 : decode cX12_prices 125 = .ok (.goto (-48), 3) := by decide +kernel
theorem dX12_prices_128 : decode cX12_prices 128 = .ok (.iconst 0, 1) := by decide +kernel
theorem dX12_prices_129 : decode cX12_prices 129 = .ok (.istore_n 3, 1) := by decide +kernel
theorem dX12_prices_130 : decode cX12_prices 130 = .ok (.iload_n 3, 1) := by decide +kernel
theorem dX12_prices_131 : decode cX12_prices 131 = .ok (.bipush 6, 2) := by decide +kernel
theorem dX12_prices_133 : decode cX12_prices 133 = .ok (.if_icmp .ge 34, 3) := by decide +kernel
theorem dX12_prices_136 : decode cX12_prices 136 = .ok (.aload_n 0, 1) := by decide +kernel
theorem dX12_prices_137 : decode cX12_prices 137 = .ok (.getfield 77, 3) := by decide +kernel
theorem dX12_prices_140 : decode cX12_prices 140 = .ok (.iload_n 3, 1) := by decide +kernel
theorem dX12_prices_141 : decode cX12_prices 141 = .ok (.iaload, 1) := by decide +kernel
theorem dX12_prices_142 : decode cX12_prices 142 = .ok (.iconst 2, 1) := by decide +kernel
theorem dX12_prices_143 : decode cX12_prices 143 = .ok (.if_icmp .ge 6, 3) := by decide +kernel
theorem dX12_prices_146 : decode cX12_prices 146 = .ok (.goto 15, 3) := by decide +kernel
theorem dX12_prices_149 : decode cX12_prices 149 = .ok (.aload_n 0, 1) := by decide +kernel
theorem dX12_prices_150 : decode cX12_prices 150 = .ok (.getfield 71, 3) := by decide +kernel
theorem dX12_prices_153 : decode cX12_prices 153 = .ok (.iload_n 3, 1) := by decide +kernel
theorem dX12_prices_154 : decode cX12_prices 154 = .ok (.dup2, 1) := by decide +kernel
theorem dX12_prices_155 : decode cX12_prices 155 = .ok (.iaload, 1) := by decide +kernel
theorem dX12_prices_156 : decode cX12_prices 156 = .ok (.iconst 1, 1) := by decide +kernel
theorem dX12_prices_157 : decode cX12_prices 157 = .ok (.iadd, 1) := by decide +kernel
theorem dX12_prices_158 : decode cX12_prices 158 = .ok (.iastore, 1) := by decide +kernel
theorem dX12_prices_159 : decode cX12_prices 159 = .ok (.iconst 1, 1) := by decide +kernel
theorem dX12_prices_160 : decode cX12_prices 160 = .ok (.istore_n 2, 1) := by decide +kernel
theorem dX12_prices_161 : decode cX12_prices 161 = .ok (.iinc 3 1, 3) := by decide +kernel
theorem dX12_prices_164 : decode cX12_prices 164 = .ok (.goto (-34), 3) := by decide +kernel
theorem dX12_prices_167 : decode cX12_prices 167 = .ok (.goto (-128), 3) := by decide +kernel
theorem dX12_prices_170 : decode cX12_prices 170 = .ok (.aload_n 0, 1) := by decide +kernel
theorem dX12_prices_171 : decode cX12_prices 171 = .ok (.aload_n 0, 1) := by decide +kernel
theorem dX12_prices_172 : decode cX12_prices 172 = .ok (.getfield 33, 3) := by decide +kernel
theorem dX12_prices_175 : decode cX12_prices 175 = .ok (.iconst 0, 1) := by decide +kernel
theorem dX12_prices_176 : decode cX12_prices 176 = .ok (.iaload, 1) := by decide +kernel
theorem dX12_prices_177 : decode cX12_prices 177 = .ok (.putfield 80, 3) := by decide +kernel
theorem dX12_prices_180 : decode cX12_prices 180 = .ok (.aload_n 0, 1) := by decide +kernel
theorem dX12_prices_181 : decode cX12_prices 181 = .ok (.aload_n 0, 1) := by decide +kernel
theorem dX12_prices_182 : decode cX12_prices 182 = .ok (.getfield 33, 3) := by decide +kernel
theorem dX12_prices_185 : decode cX12_prices 185 = .ok (.iconst 2, 1) := by decide +kernel
theorem dX12_prices_186 : decode cX12_prices 186 = .ok (.iaload, 1) := by decide +kernel
theorem dX12_prices_187 : decode cX12_prices 187 = .ok (.putfield 367, 3) := by decide +kernel
theorem dX12_prices_190 : decode cX12_prices 190 = .ok (.iload_n 1, 1) := by decide +kernel
theorem dX12_prices_191 : decode cX12_prices 191 = .ok (.ireturn, 1) := by decide +kernel
set_option maxRecDepth 100000 in
set_option maxHeartbeats 4000000 in
theorem hk_12_prices (hF : ck_LKf ck_LK) (hM : ck_LKm ck_tags ck_LK ck_tab) (hU : ck_uq ty ck_pvs0) (hun : ck_un ty) (hX : ck_ExP ty ck_protA Ex) (hH : ∀ j, j < 251 → ck_Holds l D cys ty ck_tags ck_pvs0 Ex (ck_tab j)) : ck_Holds l D cys ty ck_tags ck_pvs0 Ex (ck_tab 251) := by
  refine cm_enter (by decide +kernel) (by decide +kernel) (by decide +kernel) ?_
  intro vs pvv0 p e s m below meth c ls ha hp B hl hW
  have hx := B.1
  have hb : c.code = cX12_prices := B.2.1
  have hI := pv_inj
  have hS : va_S (ck_own ty) s.heap s.heap [] := va_S.rf
  obtain ⟨_, rfl, ⟨a0, rfl, t0⟩⟩ := cm_a1 ha
  have hl : lv_has ls 4 [(0, .ref a0)] := hl
  have hp0 := hp
  have l39 : ∀ (n39 : Nat) (bb : Int32) (rr : Int32) (ls : Array Slot) (H : Heap) (locs : List Loc), 99 - rr.toInt < n39 → (0 ≤ rr.toInt) → (rr.toInt ≤ 99) → lv_has ls 4 [(2, .int bb), (1, .int rr), (0, .ref a0)] → ck_Wo D cys ty ck_tags ck_pvs0 Ex pvv0 H → va_S (ck_own ty) s.heap H locs → W p l e (ck_rm (ck_tab 251)) s m [Value.ref a0].toArray below meth c H locs 0 0 (MQ below (ck_Qc D cys ty ck_tags ck_pvs0 Ex (ck_tab 251) [Value.ref a0] pvv0) [Value.ref a0].toArray s 0 0 (ck_own ty)) (F0 m 39 ls []) := by
    intro n39
    induction n39 with
    | zero => intro bb rr ls H locs hm39 r1 r2 hl hW hS; omega
    | succ n39 ih39 =>
      intro bb rr ls H locs hm39 r1 r2 hl hW hS
      have l130 : ∀ (n130 : Nat) (k : Int32) (bb : Int32) (rr : Int32) (ls : Array Slot) (H : Heap) (locs : List Loc), 8 - k.toInt < n130 → (0 ≤ k.toInt) → (k.toInt ≤ 8) → (0 ≤ rr.toInt) → (rr.toInt ≤ 99) → (99 - rr.toInt < n39) → lv_has ls 4 [(3, .int k), (2, .int bb), (1, .int rr), (0, .ref a0)] → ck_Wo D cys ty ck_tags ck_pvs0 Ex pvv0 H → va_S (ck_own ty) s.heap H locs → W p l e (ck_rm (ck_tab 251)) s m [Value.ref a0].toArray below meth c H locs 0 0 (MQ below (ck_Qc D cys ty ck_tags ck_pvs0 Ex (ck_tab 251) [Value.ref a0] pvv0) [Value.ref a0].toArray s 0 0 (ck_own ty)) (F0 m 130 ls []) := by
        intro n130
        induction n130 with
        | zero => intro k bb rr ls H locs hm130 k1 k2 r1 r2 r3 hl hW hS; omega
        | succ n130 ih130 =>
          intro k bb rr ls H locs hm130 k1 k2 r1 r2 r3 hl hW hS
          refine lv_iload_n hx hb dX12_prices_130 rfl (lv_at hl 0 rfl) ?_
          refine hr_bp hx hb dX12_prices_131 (by decide) (by decide) (fun z131 hz131 => ?_)
          refine hr_ge (tgt := 167) hx hb dX12_prices_133 (by decide) (fun h133 => ?_) (fun h133 => ?_)
          · refine lv_goto (tgt := 39) hx hb dX12_prices_167 (by decide) ?_
            exact ih39 bb rr _ _ _ (by omega) (by omega) (by omega) (lv_sub hl [1, 2, 3] rfl) hW hS
          · refine lv_aload_n hx hb dX12_prices_136 rfl (lv_at hl 3 rfl) ?_
            refine hr_getR B hF hb hW (ci := 12) (j := 36) (cd := 3) t0 rfl (isF (by decide +kernel)) rfl dX12_prices_137 (fun az137 tz137 xz137 => ?_)
            refine lv_iload_n hx hb dX12_prices_140 rfl (lv_at hl 0 rfl) ?_
            refine hr_iald B hb hW tz137 rfl (by omega) (by omega) dX12_prices_141 (fun z141 iz141 pz141 xz141 => ?_)
            refine hr_ic hx hb dX12_prices_142 (by decide) (fun z142 hz142 => ?_)
            refine hr_ge (tgt := 149) hx hb dX12_prices_143 (by decide) (fun h143 => ?_) (fun h143 => ?_)
            · refine lv_aload_n hx hb dX12_prices_149 rfl (lv_at hl 3 rfl) ?_
              refine hr_getR B hF hb hW (ci := 12) (j := 34) (cd := 3) t0 rfl (isF (by decide +kernel)) rfl dX12_prices_150 (fun az150 tz150 xz150 => ?_)
              refine lv_iload_n hx hb dX12_prices_153 rfl (lv_at hl 0 rfl) ?_
              refine lv_dup2_11 hx hb dX12_prices_154 rfl rfl ?_
              refine hr_iald B hb hW tz150 rfl (by omega) (by omega) dX12_prices_155 (fun z155 iz155 pz155 xz155 => ?_)
              refine hr_ic hx hb dX12_prices_156 (by decide) (fun z156 hz156 => ?_)
              refine lv_iadd hx hb dX12_prices_157 (lv_topi (fun z157 hz157 => ?_))
              refine hr_iastN B hb hU hW hS tz150 rfl (by omega) (by omega) ⟨ck_lo _, ck_hi _⟩ (hr_EA (i := k) hX tz150 (u := 0) (v := 5) (by omega) (by omega) (by decide)) (u := 0) (v := 5) (by omega) (by omega) (by decide) dX12_prices_158 (fun H locs hW hS => ?_)
              refine hr_ic hx hb dX12_prices_159 (by decide) (fun z159 hz159 => ?_)
              refine lv_istore_n hx hb dX12_prices_160 rfl hl (lv' := [(2, .int z159), (3, .int k), (1, .int rr), (0, .ref a0)]) (by decide) rfl (fun ls hl => ?_)
              refine hr_inc hx hb dX12_prices_161 hl (kq := 1) (lv' := fun v => [(3, .int v), (2, .int z159), (1, .int rr), (0, .ref a0)]) rfl (by decide) (by decide) (by omega) (by omega) (fun _ => rfl) (fun z161 ls hz161 hl => ?_)
              refine lv_goto (tgt := 130) hx hb dX12_prices_164 (by decide) ?_
              exact ih130 z161 z159 rr _ _ _ (by omega) (by omega) (by omega) (by omega) (by omega) (by omega) hl hW hS
            · refine lv_goto (tgt := 161) hx hb dX12_prices_146 (by decide) ?_
              refine hr_inc hx hb dX12_prices_161 hl (kq := 0) (lv' := fun v => [(3, .int v), (2, .int bb), (1, .int rr), (0, .ref a0)]) rfl (by decide) (by decide) (by omega) (by omega) (fun _ => rfl) (fun z161 ls hz161 hl => ?_)
              refine lv_goto (tgt := 130) hx hb dX12_prices_164 (by decide) ?_
              exact ih130 z161 bb rr _ _ _ (by omega) (by omega) (by omega) (by omega) (by omega) (by omega) hl hW hS
      have l77 : ∀ (n77 : Nat) (k : Int32) (bb : Int32) (rr : Int32) (ls : Array Slot) (H : Heap) (locs : List Loc), 8 - k.toInt < n77 → (0 ≤ k.toInt) → (k.toInt ≤ 8) → (0 ≤ rr.toInt) → (rr.toInt ≤ 99) → (99 - rr.toInt < n39) → lv_has ls 4 [(3, .int k), (2, .int bb), (1, .int rr), (0, .ref a0)] → ck_Wo D cys ty ck_tags ck_pvs0 Ex pvv0 H → va_S (ck_own ty) s.heap H locs → W p l e (ck_rm (ck_tab 251)) s m [Value.ref a0].toArray below meth c H locs 0 0 (MQ below (ck_Qc D cys ty ck_tags ck_pvs0 Ex (ck_tab 251) [Value.ref a0] pvv0) [Value.ref a0].toArray s 0 0 (ck_own ty)) (F0 m 77 ls []) := by
        intro n77
        induction n77 with
        | zero => intro k bb rr ls H locs hm77 k1 k2 r1 r2 r3 hl hW hS; omega
        | succ n77 ih77 =>
          intro k bb rr ls H locs hm77 k1 k2 r1 r2 r3 hl hW hS
          refine lv_iload_n hx hb dX12_prices_77 rfl (lv_at hl 0 rfl) ?_
          refine lv_aload_n hx hb dX12_prices_78 rfl (lv_at hl 3 rfl) ?_
          refine hr_getR B hF hb hW (ci := 12) (j := 6) (cd := 3) t0 rfl (isF (by decide +kernel)) rfl dX12_prices_79 (fun az79 tz79 xz79 => ?_)
          refine hr_ic hx hb dX12_prices_82 (by decide) (fun z82 hz82 => ?_)
          refine hr_iald B hb hW tz79 rfl (by omega) (by omega) dX12_prices_83 (fun z83 iz83 pz83 xz83 => ?_)
          have iz83 := hr_inr iz83 (a := 2) (b := 2) (lo := 0) (hi := 8) (by omega) (by omega) (by decide +kernel)
          refine hr_ge (tgt := 128) hx hb dX12_prices_84 (by decide) (fun h84 => ?_) (fun h84 => ?_)
          · refine hr_ic hx hb dX12_prices_128 (by decide) (fun z128 hz128 => ?_)
            refine lv_istore_n hx hb dX12_prices_129 rfl hl (lv' := [(3, .int z128), (2, .int bb), (1, .int rr), (0, .ref a0)]) (by decide) rfl (fun ls hl => ?_)
            exact l130 9 z128 bb rr _ _ _ (by omega) (by omega) (by omega) (by omega) (by omega) (by omega) hl hW hS
          · refine lv_aload_n hx hb dX12_prices_87 rfl (lv_at hl 3 rfl) ?_
            refine hr_getR B hF hb hW (ci := 12) (j := 35) (cd := 3) t0 rfl (isF (by decide +kernel)) rfl dX12_prices_88 (fun az88 tz88 xz88 => ?_)
            refine lv_iload_n hx hb dX12_prices_91 rfl (lv_at hl 0 rfl) ?_
            refine lv_aload_n hx hb dX12_prices_92 rfl (lv_at hl 3 rfl) ?_
            refine lv_iload_n hx hb dX12_prices_93 rfl (lv_at hl 0 rfl) ?_
            refine cm_callV (kc := kc_250) B rfl hb hl (hM.1 _ _ 0 [250] (isM (by decide +kernel)) 250 (by decide)) (hH 250 (by decide)) (b := a0) (As := [.int k]) ⟨hr_aR t0, hr_aI (by omega) (by omega), True.intro⟩ hp hW hS rfl (by decide) (by decide) (Nat.le_of_ble_eq_true rfl) dX12_prices_94 (fun cs hcs r pvv94 H locs hca hW hS => ?_)
            obtain rfl := List.mem_singleton.mp hcs
            obtain ⟨hr, hq, hc⟩ := hca
            obtain ⟨z94, rfl, lz94, uz94⟩ := hr_rvI hr
            have hW := hr_pvE (hr_sameA hc rfl (by decide +kernel)) hW
            refine hr_iastN B hb hU hW hS tz88 rfl (by omega) (by omega) (hr_ins (a := 0) (b := 7) (lo := -1) (hi := 5) (by omega) (by omega) (by decide +kernel) (by omega) (by omega)) (hr_EA (i := k) hX tz88 (u := 0) (v := 7) (by omega) (by omega) (by decide)) (u := 0) (v := 7) (by omega) (by omega) (by decide) dX12_prices_97 (fun H locs hW hS => ?_)
            refine lv_aload_n hx hb dX12_prices_98 rfl (lv_at hl 3 rfl) ?_
            refine hr_getR B hF hb hW (ci := 12) (j := 35) (cd := 3) t0 rfl (isF (by decide +kernel)) rfl dX12_prices_99 (fun az99 tz99 xz99 => ?_)
            refine lv_iload_n hx hb dX12_prices_102 rfl (lv_at hl 0 rfl) ?_
            obtain ⟨f, hW⟩ := hr_trk hW tz99 rfl (by decide)
            refine hr_iald B hb hW tz99 rfl (by omega) (by omega) dX12_prices_103 (fun z103 iz103 pz103 xz103 => ?_)
            have iz103 := hr_inr iz103 (a := 0) (b := 7) (lo := -1) (hi := 5) (by omega) (by omega) (by decide +kernel)
            have y103 := ta_xa xz103 (by omega)
            refine hr_lt0 (tgt := 122) hx hb dX12_prices_104 (by decide) (fun h104 => ?_) (fun h104 => ?_)
            · have hW := hr_mono (fun _ h => h.1) hW
              refine hr_inc hx hb dX12_prices_122 hl (kq := 0) (lv' := fun v => [(3, .int v), (2, .int bb), (1, .int rr), (0, .ref a0)]) rfl (by decide) (by decide) (by omega) (by omega) (fun _ => rfl) (fun z122 ls hz122 hl => ?_)
              refine lv_goto (tgt := 77) hx hb dX12_prices_125 (by decide) ?_
              exact ih77 z122 bb rr _ _ _ (by omega) (by omega) (by omega) (by omega) (by omega) (by omega) hl hW hS
            · refine lv_aload_n hx hb dX12_prices_107 rfl (lv_at hl 3 rfl) ?_
              refine hr_getR B hF hb hW (ci := 12) (j := 36) (cd := 3) t0 rfl (isF (by decide +kernel)) rfl dX12_prices_108 (fun az108 tz108 xz108 => ?_)
              refine lv_aload_n hx hb dX12_prices_111 rfl (lv_at hl 3 rfl) ?_
              refine hr_getR B hF hb hW (ci := 12) (j := 35) (cd := 3) t0 rfl (isF (by decide +kernel)) rfl dX12_prices_112 (fun az112 tz112 xz112 => ?_)
              refine lv_iload_n hx hb dX12_prices_115 rfl (lv_at hl 0 rfl) ?_
              obtain rfl := hun 41 (by decide) _ _ tz112 tz99
              refine hr_iald B hb hW tz112 rfl (by omega) (by omega) dX12_prices_116 (fun z116 iz116 pz116 xz116 => ?_)
              have iz116 := hr_inr iz116 (a := 0) (b := 7) (lo := -1) (hi := 5) (by omega) (by omega) (by decide +kernel)
              have y116 := ta_xa xz116 (by omega)
              rw [← y103] at y116
              have y116 : z116.toInt = z103.toInt := by rw [y116]
              have hW := hr_mono (fun _ h => h.1) hW
              refine lv_dup2_11 hx hb dX12_prices_117 rfl rfl ?_
              refine hr_iald B hb hW tz108 rfl (by omega) (by omega) dX12_prices_118 (fun z118 iz118 pz118 xz118 => ?_)
              refine hr_ic hx hb dX12_prices_119 (by decide) (fun z119 hz119 => ?_)
              refine lv_iadd hx hb dX12_prices_120 (lv_topi (fun z120 hz120 => ?_))
              refine hr_iastN B hb hU hW hS tz108 rfl (by omega) (by omega) ⟨ck_lo _, ck_hi _⟩ (hr_EA (i := z116) hX tz108 (u := 0) (v := 5) (by omega) (by omega) (by decide)) (u := 0) (v := 5) (by omega) (by omega) (by decide) dX12_prices_121 (fun H locs hW hS => ?_)
              refine hr_inc hx hb dX12_prices_122 hl (kq := 0) (lv' := fun v => [(3, .int v), (2, .int bb), (1, .int rr), (0, .ref a0)]) rfl (by decide) (by decide) (by omega) (by omega) (fun _ => rfl) (fun z122 ls hz122 hl => ?_)
              refine lv_goto (tgt := 77) hx hb dX12_prices_125 (by decide) ?_
              exact ih77 z122 bb rr _ _ _ (by omega) (by omega) (by omega) (by omega) (by omega) (by omega) hl hW hS
      have l56 : ∀ (n56 : Nat) (k : Int32) (bb : Int32) (rr : Int32) (ls : Array Slot) (H : Heap) (locs : List Loc), 8 - k.toInt < n56 → (0 ≤ k.toInt) → (k.toInt ≤ 8) → (0 ≤ rr.toInt) → (rr.toInt ≤ 99) → (99 - rr.toInt < n39) → lv_has ls 4 [(3, .int k), (2, .int bb), (1, .int rr), (0, .ref a0)] → ck_Wo D cys ty ck_tags ck_pvs0 Ex pvv0 H → va_S (ck_own ty) s.heap H locs → W p l e (ck_rm (ck_tab 251)) s m [Value.ref a0].toArray below meth c H locs 0 0 (MQ below (ck_Qc D cys ty ck_tags ck_pvs0 Ex (ck_tab 251) [Value.ref a0] pvv0) [Value.ref a0].toArray s 0 0 (ck_own ty)) (F0 m 56 ls []) := by
        intro n56
        induction n56 with
        | zero => intro k bb rr ls H locs hm56 k1 k2 r1 r2 r3 hl hW hS; omega
        | succ n56 ih56 =>
          intro k bb rr ls H locs hm56 k1 k2 r1 r2 r3 hl hW hS
          refine lv_iload_n hx hb dX12_prices_56 rfl (lv_at hl 0 rfl) ?_
          refine hr_bp hx hb dX12_prices_57 (by decide) (by decide) (fun z57 hz57 => ?_)
          refine hr_ge (tgt := 75) hx hb dX12_prices_59 (by decide) (fun h59 => ?_) (fun h59 => ?_)
          · refine hr_ic hx hb dX12_prices_75 (by decide) (fun z75 hz75 => ?_)
            refine lv_istore_n hx hb dX12_prices_76 rfl hl (lv' := [(3, .int z75), (2, .int bb), (1, .int rr), (0, .ref a0)]) (by decide) rfl (fun ls hl => ?_)
            exact l77 9 z75 bb rr _ _ _ (by omega) (by omega) (by omega) (by omega) (by omega) (by omega) hl hW hS
          · refine lv_aload_n hx hb dX12_prices_62 rfl (lv_at hl 3 rfl) ?_
            refine hr_getR B hF hb hW (ci := 12) (j := 36) (cd := 3) t0 rfl (isF (by decide +kernel)) rfl dX12_prices_63 (fun az63 tz63 xz63 => ?_)
            refine lv_iload_n hx hb dX12_prices_66 rfl (lv_at hl 0 rfl) ?_
            refine hr_ic hx hb dX12_prices_67 (by decide) (fun z67 hz67 => ?_)
            refine hr_iastN B hb hU hW hS tz63 rfl (by omega) (by omega) ⟨ck_lo _, ck_hi _⟩ (hr_EA (i := k) hX tz63 (u := 0) (v := 5) (by omega) (by omega) (by decide)) (u := 0) (v := 5) (by omega) (by omega) (by decide) dX12_prices_68 (fun H locs hW hS => ?_)
            refine hr_inc hx hb dX12_prices_69 hl (kq := 0) (lv' := fun v => [(3, .int v), (2, .int bb), (1, .int rr), (0, .ref a0)]) rfl (by decide) (by decide) (by omega) (by omega) (fun _ => rfl) (fun z69 ls hz69 hl => ?_)
            refine lv_goto (tgt := 56) hx hb dX12_prices_72 (by decide) ?_
            exact ih56 z69 bb rr _ _ _ (by omega) (by omega) (by omega) (by omega) (by omega) (by omega) hl hW hS
      refine lv_iload_n hx hb dX12_prices_39 rfl (lv_at hl 0 rfl) ?_
      refine hr_eq0 (tgt := 170) hx hb dX12_prices_40 (by decide) (fun h40 => ?_) (fun h40 => ?_)
      · refine lv_aload_n hx hb dX12_prices_170 rfl (lv_at hl 2 rfl) ?_
        refine lv_aload_n hx hb dX12_prices_171 rfl (lv_at hl 2 rfl) ?_
        refine hr_getR B hF hb hW (ci := 12) (j := 6) (cd := 3) t0 rfl (isF (by decide +kernel)) rfl dX12_prices_172 (fun az172 tz172 xz172 => ?_)
        refine hr_ic hx hb dX12_prices_175 (by decide) (fun z175 hz175 => ?_)
        refine hr_iald B hb hW tz172 rfl (by omega) (by omega) dX12_prices_176 (fun z176 iz176 pz176 xz176 => ?_)
        have iz176 := hr_inr iz176 (a := 0) (b := 0) (lo := 0) (hi := 6) (by omega) (by omega) (by decide +kernel)
        refine hr_putN B hF hb hU hW hS (ci := 12) (j := 37) (cd := 0) t0 rfl (isF (by decide +kernel)) rfl (by omega) (by omega) (Or.inl rfl) (hr_EO hX t0 (by decide)) (by decide) dX12_prices_177 (fun H locs hW hS => ?_)
        refine lv_aload_n hx hb dX12_prices_180 rfl (lv_at hl 2 rfl) ?_
        refine lv_aload_n hx hb dX12_prices_181 rfl (lv_at hl 2 rfl) ?_
        refine hr_getR B hF hb hW (ci := 12) (j := 6) (cd := 3) t0 rfl (isF (by decide +kernel)) rfl dX12_prices_182 (fun az182 tz182 xz182 => ?_)
        refine hr_ic hx hb dX12_prices_185 (by decide) (fun z185 hz185 => ?_)
        refine hr_iald B hb hW tz182 rfl (by omega) (by omega) dX12_prices_186 (fun z186 iz186 pz186 xz186 => ?_)
        have iz186 := hr_inr iz186 (a := 2) (b := 2) (lo := 0) (hi := 8) (by omega) (by omega) (by decide +kernel)
        refine hr_putN B hF hb hU hW hS (ci := 12) (j := 38) (cd := 0) t0 rfl (isF (by decide +kernel)) rfl (by omega) (by omega) (Or.inl rfl) (hr_EO hX t0 (by decide)) (by decide) dX12_prices_187 (fun H locs hW hS => ?_)
        refine lv_iload_n hx hb dX12_prices_190 rfl (lv_at hl 1 rfl) ?_
        exact cm_iret B hb rfl ⟨_, List.mem_cons_self, hr_aF (ty := ty), (fun q h => nomatch h), hr_wk (hr_self hp0) (by decide +kernel)⟩ hW hS dX12_prices_191
      · refine lv_iload_n hx hb dX12_prices_43 rfl (lv_at hl 1 rfl) ?_
        refine hr_bp hx hb dX12_prices_44 (by decide) (by decide) (fun z44 hz44 => ?_)
        refine hr_ge (tgt := 170) hx hb dX12_prices_46 (by decide) (fun h46 => ?_) (fun h46 => ?_)
        · refine lv_aload_n hx hb dX12_prices_170 rfl (lv_at hl 2 rfl) ?_
          refine lv_aload_n hx hb dX12_prices_171 rfl (lv_at hl 2 rfl) ?_
          refine hr_getR B hF hb hW (ci := 12) (j := 6) (cd := 3) t0 rfl (isF (by decide +kernel)) rfl dX12_prices_172 (fun az172 tz172 xz172 => ?_)
          refine hr_ic hx hb dX12_prices_175 (by decide) (fun z175 hz175 => ?_)
          refine hr_iald B hb hW tz172 rfl (by omega) (by omega) dX12_prices_176 (fun z176 iz176 pz176 xz176 => ?_)
          have iz176 := hr_inr iz176 (a := 0) (b := 0) (lo := 0) (hi := 6) (by omega) (by omega) (by decide +kernel)
          refine hr_putN B hF hb hU hW hS (ci := 12) (j := 37) (cd := 0) t0 rfl (isF (by decide +kernel)) rfl (by omega) (by omega) (Or.inl rfl) (hr_EO hX t0 (by decide)) (by decide) dX12_prices_177 (fun H locs hW hS => ?_)
          refine lv_aload_n hx hb dX12_prices_180 rfl (lv_at hl 2 rfl) ?_
          refine lv_aload_n hx hb dX12_prices_181 rfl (lv_at hl 2 rfl) ?_
          refine hr_getR B hF hb hW (ci := 12) (j := 6) (cd := 3) t0 rfl (isF (by decide +kernel)) rfl dX12_prices_182 (fun az182 tz182 xz182 => ?_)
          refine hr_ic hx hb dX12_prices_185 (by decide) (fun z185 hz185 => ?_)
          refine hr_iald B hb hW tz182 rfl (by omega) (by omega) dX12_prices_186 (fun z186 iz186 pz186 xz186 => ?_)
          have iz186 := hr_inr iz186 (a := 2) (b := 2) (lo := 0) (hi := 8) (by omega) (by omega) (by decide +kernel)
          refine hr_putN B hF hb hU hW hS (ci := 12) (j := 38) (cd := 0) t0 rfl (isF (by decide +kernel)) rfl (by omega) (by omega) (Or.inl rfl) (hr_EO hX t0 (by decide)) (by decide) dX12_prices_187 (fun H locs hW hS => ?_)
          refine lv_iload_n hx hb dX12_prices_190 rfl (lv_at hl 1 rfl) ?_
          exact cm_iret B hb rfl ⟨_, List.mem_cons_self, hr_aF (ty := ty), (fun q h => nomatch h), hr_wk (hr_self hp0) (by decide +kernel)⟩ hW hS dX12_prices_191
        · refine hr_ic hx hb dX12_prices_49 (by decide) (fun z49 hz49 => ?_)
          refine lv_istore_n hx hb dX12_prices_50 rfl hl (lv' := [(2, .int z49), (1, .int rr), (0, .ref a0)]) (by decide) rfl (fun ls hl => ?_)
          refine hr_inc hx hb dX12_prices_51 hl (kq := 1) (lv' := fun v => [(1, .int v), (2, .int z49), (0, .ref a0)]) rfl (by decide) (by decide) (by omega) (by omega) (fun _ => rfl) (fun z51 ls hz51 hl => ?_)
          refine hr_ic hx hb dX12_prices_54 (by decide) (fun z54 hz54 => ?_)
          refine lv_istore_n hx hb dX12_prices_55 rfl hl (lv' := [(3, .int z54), (1, .int z51), (2, .int z49), (0, .ref a0)]) (by decide) rfl (fun ls hl => ?_)
          exact l56 9 z54 z49 z51 _ _ _ (by omega) (by omega) (by omega) (by omega) (by omega) (by omega) (lv_sub hl [0, 2, 1, 3] rfl) hW hS
  have l16 : ∀ (n16 : Nat) (k : Int32) (ls : Array Slot) (H : Heap) (locs : List Loc), 6 - k.toInt < n16 → (0 ≤ k.toInt) → (k.toInt ≤ 6) → lv_has ls 4 [(1, .int k), (0, .ref a0)] → ck_Wo D cys ty ck_tags ck_pvs0 Ex pvv0 H → va_S (ck_own ty) s.heap H locs → W p l e (ck_rm (ck_tab 251)) s m [Value.ref a0].toArray below meth c H locs 0 0 (MQ below (ck_Qc D cys ty ck_tags ck_pvs0 Ex (ck_tab 251) [Value.ref a0] pvv0) [Value.ref a0].toArray s 0 0 (ck_own ty)) (F0 m 16 ls []) := by
    intro n16
    induction n16 with
    | zero => intro k ls H locs hm16 k1 k2 hl hW hS; omega
    | succ n16 ih16 =>
      intro k ls H locs hm16 k1 k2 hl hW hS
      refine lv_iload_n hx hb dX12_prices_16 rfl (lv_at hl 0 rfl) ?_
      refine hr_bp hx hb dX12_prices_17 (by decide) (by decide) (fun z17 hz17 => ?_)
      refine hr_ge (tgt := 35) hx hb dX12_prices_19 (by decide) (fun h19 => ?_) (fun h19 => ?_)
      · refine hr_ic hx hb dX12_prices_35 (by decide) (fun z35 hz35 => ?_)
        refine lv_istore_n hx hb dX12_prices_36 rfl hl (lv' := [(1, .int z35), (0, .ref a0)]) (by decide) rfl (fun ls hl => ?_)
        refine hr_ic hx hb dX12_prices_37 (by decide) (fun z37 hz37 => ?_)
        refine lv_istore_n hx hb dX12_prices_38 rfl hl (lv' := [(2, .int z37), (1, .int z35), (0, .ref a0)]) (by decide) rfl (fun ls hl => ?_)
        exact l39 100 z37 z35 _ _ _ (by omega) (by omega) (by omega) hl hW hS
      · refine lv_aload_n hx hb dX12_prices_22 rfl (lv_at hl 1 rfl) ?_
        refine hr_getR B hF hb hW (ci := 12) (j := 34) (cd := 3) t0 rfl (isF (by decide +kernel)) rfl dX12_prices_23 (fun az23 tz23 xz23 => ?_)
        refine lv_iload_n hx hb dX12_prices_26 rfl (lv_at hl 0 rfl) ?_
        refine hr_ic hx hb dX12_prices_27 (by decide) (fun z27 hz27 => ?_)
        refine hr_iastN B hb hU hW hS tz23 rfl (by omega) (by omega) ⟨ck_lo _, ck_hi _⟩ (hr_EA (i := k) hX tz23 (u := 0) (v := 5) (by omega) (by omega) (by decide)) (u := 0) (v := 5) (by omega) (by omega) (by decide) dX12_prices_28 (fun H locs hW hS => ?_)
        refine hr_inc hx hb dX12_prices_29 hl (kq := 0) (lv' := fun v => [(1, .int v), (0, .ref a0)]) rfl (by decide) (by decide) (by omega) (by omega) (fun _ => rfl) (fun z29 ls hz29 hl => ?_)
        refine lv_goto (tgt := 16) hx hb dX12_prices_32 (by decide) ?_
        exact ih16 z29 _ _ _ (by omega) (by omega) (by omega) hl hW hS
  refine lv_aload_n hx hb dX12_prices_0 rfl (lv_at hl 0 rfl) ?_
  refine hr_ic hx hb dX12_prices_1 (by decide) (fun z1 hz1 => ?_)
  refine hr_putN B hF hb hU hW hS (ci := 12) (j := 0) (cd := 0) t0 rfl (isF (by decide +kernel)) rfl (by omega) (by omega) (Or.inl rfl) (hr_EO hX t0 (by decide)) (by decide) dX12_prices_2 (fun H locs hW hS => ?_)
  refine lv_aload_n hx hb dX12_prices_5 rfl (lv_at hl 0 rfl) ?_
  refine cm_callV (kc := kc_202) B rfl hb hl (hM.1 _ _ 0 [202] (isM (by decide +kernel)) 202 (by decide)) (hH 202 (by decide)) (b := a0) (As := []) ⟨hr_aR t0, True.intro⟩ hp hW hS rfl (by decide) (by decide) (Nat.le_of_ble_eq_true rfl) dX12_prices_6 (fun cs hcs r pvv6 H locs hca hW hS => ?_)
  rcases List.mem_cons.mp hcs with rfl | hcs
  · obtain ⟨hr, hq, hc⟩ := hca
    obtain ⟨z6, rfl, lz6, uz6⟩ := hr_rvI hr
    have hW := hr_pvE (hr_sameA hc rfl (by decide +kernel)) hW
    refine hr_eq0 (tgt := 14) hx hb dX12_prices_9 (by decide) (fun h9 => ?_) (fun h9 => ?_)
    · refine hr_ic hx hb dX12_prices_14 (by decide) (fun z14 hz14 => ?_)
      refine lv_istore_n hx hb dX12_prices_15 rfl hl (lv' := [(1, .int z14), (0, .ref a0)]) (by decide) rfl (fun ls hl => ?_)
      exact l16 7 z14 _ _ _ (by omega) (by omega) (by omega) hl hW hS
    · refine hr_ic hx hb dX12_prices_12 (by decide) (fun z12 hz12 => ?_)
      exact cm_iret B hb rfl ⟨_, List.mem_cons_self, hr_aF (ty := ty), (fun q h => nomatch h), hr_wk (hr_self hp0) (by decide +kernel)⟩ hW hS dX12_prices_13
  obtain rfl := List.mem_singleton.mp hcs
  obtain ⟨hr, hq, hc⟩ := hca
  obtain ⟨z6, rfl, lz6, uz6⟩ := hr_rvI hr
  have hW := hr_pvE (hr_sameA hc rfl (by decide +kernel)) hW
  refine hr_eq0 (tgt := 14) hx hb dX12_prices_9 (by decide) (fun h9 => ?_) (fun h9 => ?_)
  · refine hr_ic hx hb dX12_prices_14 (by decide) (fun z14 hz14 => ?_)
    refine lv_istore_n hx hb dX12_prices_15 rfl hl (lv' := [(1, .int z14), (0, .ref a0)]) (by decide) rfl (fun ls hl => ?_)
    exact l16 7 z14 _ _ _ (by omega) (by omega) (by omega) hl hW hS
  · refine hr_ic hx hb dX12_prices_12 (by decide) (fun z12 hz12 => ?_)
    exact cm_iret B hb rfl ⟨_, List.mem_cons_self, hr_aF (ty := ty), (fun q h => nomatch h), hr_wk (hr_self hp0) (by decide +kernel)⟩ hW hS dX12_prices_13
theorem dX2_clap_0 : decode cX2_clap 0 = .ok (.iconst (-1), 1) := by decide +kernel
theorem dX2_clap_1 : decode cX2_clap 1 = .ok (.istore_n 3, 1) := by decide +kernel
theorem dX2_clap_2 : decode cX2_clap 2 = .ok (.iconst 0, 1) := by decide +kernel
theorem dX2_clap_3 : decode cX2_clap 3 = .ok (.istore 4, 2) := by decide +kernel
theorem dX2_clap_5 : decode cX2_clap 5 = .ok (.iconst 0, 1) := by decide +kernel
theorem dX2_clap_6 : decode cX2_clap 6 = .ok (.istore 5, 2) := by decide +kernel
theorem dX2_clap_8 : decode cX2_clap 8 = .ok (.iload 5, 2) := by decide +kernel
theorem dX2_clap_10 : decode cX2_clap 10 = .ok (.aload_n 1, 1) := by decide +kernel
theorem dX2_clap_11 : decode cX2_clap 11 = .ok (.getfield 118, 3) := by decide +kernel
theorem dX2_clap_14 : decode cX2_clap 14 = .ok (.if_icmp .ge 44, 3) := by decide +kernel
theorem dX2_clap_17 : decode cX2_clap 17 = .ok (.aload_n 0, 1) := by decide +kernel
theorem dX2_clap_18 : decode cX2_clap 18 = .ok (.getfield 36, 3) := by decide +kernel
theorem dX2_clap_21 : decode cX2_clap 21 = .ok (.iload 5, 2) := by decide +kernel
theorem dX2_clap_23 : decode cX2_clap 23 = .ok (.iaload, 1) := by decide +kernel
theorem dX2_clap_24 : decode cX2_clap 24 = .ok (.iconst (-1), 1) := by decide +kernel
theorem dX2_clap_25 : decode cX2_clap 25 = .ok (.if_icmp .eq 27, 3) := by decide +kernel
theorem dX2_clap_28 : decode cX2_clap 28 = .ok (.aload_n 1, 1) := by decide +kernel
theorem dX2_clap_29 : decode cX2_clap 29 = .ok (.iload_n 2, 1) := by decide +kernel
theorem dX2_clap_30 : decode cX2_clap 30 = .ok (.iload 5, 2) := by decide +kernel
theorem dX2_clap_32 : decode cX2_clap 32 = .ok (.invokevirtual 145, 3) := by decide +kernel
theorem dX2_clap_35 : decode cX2_clap 35 = .ok (.iload 4, 2) := by decide +kernel
theorem dX2_clap_37 : decode cX2_clap 37 = .ok (.if_icmp .le 15, 3) := by decide +kernel
theorem dX2_clap_40 : decode cX2_clap 40 = .ok (.aload_n 1, 1) := by decide +kernel
theorem dX2_clap_41 : decode cX2_clap 41 = .ok (.iload_n 2, 1) := by decide +kernel
theorem dX2_clap_42 : decode cX2_clap 42 = .ok (.iload 5, 2) := by decide +kernel
theorem dX2_clap_44 : decode cX2_clap 44 = .ok (.invokevirtual 145, 3) := by decide +kernel
theorem dX2_clap_47 : decode cX2_clap 47 = .ok (.istore 4, 2) := by decide +kernel
theorem dX2_clap_49 : decode cX2_clap 49 = .ok (.iload 5, 2) := by decide +kernel
theorem dX2_clap_51 : decode cX2_clap 51 = .ok (.istore_n 3, 1) := by decide +kernel
theorem dX2_clap_52 : decode cX2_clap 52 = .ok (.iinc 5 1, 3) := by decide +kernel
theorem dX2_clap_55 : decode cX2_clap 55 = .ok (.goto (-47), 3) := by decide +kernel
theorem dX2_clap_58 : decode cX2_clap 58 = .ok (.iload_n 3, 1) := by decide +kernel
theorem dX2_clap_59 : decode cX2_clap 59 = .ok (.iconst (-1), 1) := by decide +kernel
theorem dX2_clap_60 : decode cX2_clap 60 = .ok (.if_icmp .eq 28, 3) := by decide +kernel
theorem dX2_clap_63 : decode cX2_clap 63 = .ok (.aload_n 0, 1) := by decide +kernel
theorem dX2_clap_64 : decode cX2_clap 64 = .ok (.getfield 49, 3) := by decide +kernel
theorem dX2_clap_67 : decode cX2_clap 67 = .ok (.aload_n 0, 1) := by decide +kernel
theorem dX2_clap_68 : decode cX2_clap 68 = .ok (.getfield 36, 3) := by decide +kernel
theorem dX2_clap_71 : decode cX2_clap 71 = .ok (.iload_n 3, 1) := by decide +kernel
theorem dX2_clap_72 : decode cX2_clap 72 = .ok (.iaload, 1) := by decide +kernel
theorem dX2_clap_73 : decode cX2_clap 73 = .ok (.dup2, 1) := by decide +kernel
theorem dX2_clap_74 : decode cX2_clap 74 = .ok (.iaload, 1) := by decide +kernel
theorem dX2_clap_75 : decode cX2_clap 75 = .ok (.iconst 1, 1) := by decide +kernel
theorem dX2_clap_76 : decode cX2_clap 76 = .ok (.iadd, 1) := by decide +kernel
theorem dX2_clap_77 : decode cX2_clap 77 = .ok (.iastore, 1) := by decide +kernel
theorem dX2_clap_78 : decode cX2_clap 78 = .ok (.aload_n 0, 1) := by decide +kernel
theorem dX2_clap_79 : decode cX2_clap 79 = .ok (.dup, 1) := by decide +kernel
theorem dX2_clap_80 : decode cX2_clap 80 = .ok (.getfield 27, 3) := by decide +kernel
theorem dX2_clap_83 : decode cX2_clap 83 = .ok (.iconst 1, 1) := by decide +kernel
theorem dX2_clap_84 : decode cX2_clap 84 = .ok (.iadd, 1) := by decide +kernel
theorem dX2_clap_85 : decode cX2_clap 85 = .ok (.putfield 27, 3) := by decide +kernel
theorem dX2_clap_88 : decode cX2_clap 88 = .ok (.return_, 1) := by decide +kernel
set_option maxRecDepth 100000 in
set_option maxHeartbeats 4000000 in
theorem hk_2_clap (hF : ck_LKf ck_LK) (hM : ck_LKm ck_tags ck_LK ck_tab) (hU : ck_uq ty ck_pvs0) (hun : ck_un ty) (hX : ck_ExP ty ck_protA Ex) (hHA : ∀ Ex', ck_ExP ty ck_protA Ex' → ∀ j, j < 29 → ck_Holds l D cys ty ck_tags ck_pvs0 Ex' (ck_tab j)) (hH : ∀ j, j < 29 → ck_Holds l D cys ty ck_tags ck_pvs0 Ex (ck_tab j)) : ck_Holds l D cys ty ck_tags ck_pvs0 Ex (ck_tab 29) := by
  refine cm_enter (by decide +kernel) (by decide +kernel) (by decide +kernel) ?_
  intro vs pvv0 p e s m below meth c ls ha hp B hl hW
  have hx := B.1
  have hb : c.code = cX2_clap := B.2.1
  have hI := pv_inj
  have hS : va_S (ck_own ty) s.heap s.heap [] := va_S.rf
  obtain ⟨_, _, _, rfl, ⟨a0, rfl, t0⟩, ⟨a1, rfl, t1⟩, ⟨x2, rfl, l2, u2, -⟩⟩ := cm_a3 ha
  dsimp only at l2 u2
  have hl : lv_has ls 6 [(0, .ref a0), (1, .ref a1), (2, .int x2)] := hl
  have hp0 := hp
  obtain ⟨a8, f, t8, hW⟩ := hr_trf hW t0
  have hX2 := ExP_and hX (te_ExP (cy := cys 0) (f := f) t0 t8)
  have l8 : ∀ (n8 : Nat) (pp : Int32) (mo : Int32) (lk : Int32) (ls : Array Slot) (H : Heap) (locs : List Loc), 6 - pp.toInt < n8 → (0 ≤ pp.toInt) → (pp.toInt ≤ 6) → (lk.toInt = -1 ∨ (0 ≤ lk.toInt ∧ lk.toInt ≤ 5 ∧ (f lk.toInt.toNat).toInt ≠ -1)) → lv_has ls 6 [(5, .int pp), (4, .int mo), (3, .int lk), (0, .ref a0), (1, .ref a1), (2, .int x2)] → ck_Wo D cys ty ck_tags ck_pvs0 (fun ws => Ex ws ∧ te a0 a8 (cys 0) f ws) pvv0 H → va_S (ck_own ty) s.heap H locs → W p l e (ck_rm (ck_tab 29)) s m [Value.ref a0, Value.ref a1, Value.int x2].toArray below meth c H locs 0 0 (MQ below (ck_Qc D cys ty ck_tags ck_pvs0 Ex (ck_tab 29) [Value.ref a0, Value.ref a1, Value.int x2] pvv0) [Value.ref a0, Value.ref a1, Value.int x2].toArray s 0 0 (ck_own ty)) (F0 m 8 ls []) := by
    intro n8
    induction n8 with
    | zero => intro pp mo lk ls H locs hm8 p1 p2 k3 hl hW hS; omega
    | succ n8 ih8 =>
      intro pp mo lk ls H locs hm8 p1 p2 k3 hl hW hS
      refine lv_iload hx hb dX2_clap_8 (lv_at hl 0 rfl) ?_
      refine lv_aload_n hx hb dX2_clap_10 rfl (lv_at hl 4 rfl) ?_
      refine hr_getI B hF hb hW (ci := 6) (j := 0) (cd := 0) t1 rfl (isF (by decide +kernel)) rfl dX2_clap_11 (fun z11 lz11 uz11 pz11 xz11 => ?_)
      refine hr_ge (tgt := 58) hx hb dX2_clap_14 (by decide) (fun h14 => ?_) (fun h14 => ?_)
      · refine lv_iload_n hx hb dX2_clap_58 rfl (lv_at hl 2 rfl) ?_
        refine hr_ic hx hb dX2_clap_59 (by decide) (fun z59 hz59 => ?_)
        refine hr_eq (tgt := 88) hx hb dX2_clap_60 (by decide) (fun h60 => ?_) (fun h60 => ?_)
        · have hW := hr_mono (fun _ h => h.1) hW
          exact cm_vret B hb rfl ⟨_, List.mem_cons_self, True.intro, (fun q h => nomatch h), hr_wk (hr_self hp0) (by decide +kernel)⟩ hW hS dX2_clap_88
        · refine lv_aload_n hx hb dX2_clap_63 rfl (lv_at hl 3 rfl) ?_
          refine hr_getR B hF hb hW (ci := 2) (j := 12) (cd := 3) t0 rfl (isF (by decide +kernel)) rfl dX2_clap_64 (fun az64 tz64 xz64 => ?_)
          refine lv_aload_n hx hb dX2_clap_67 rfl (lv_at hl 3 rfl) ?_
          refine hr_getR B hF hb hW (ci := 2) (j := 8) (cd := 3) t0 rfl (isF (by decide +kernel)) rfl dX2_clap_68 (fun az68 tz68 xz68 => ?_)
          obtain rfl := te_xo xz68
          refine lv_iload_n hx hb dX2_clap_71 rfl (lv_at hl 2 rfl) ?_
          refine hr_iald B hb hW t8 rfl (by omega) (by omega) dX2_clap_72 (fun z72 iz72 pz72 xz72 => ?_)
          have iz72 := hr_inr iz72 (a := 0) (b := 5) (lo := -1) (hi := 7) (by omega) (by omega) (by decide +kernel)
          have y72 := congrArg Int32.toInt (te_xa xz72 (by omega))
          refine lv_dup2_11 hx hb dX2_clap_73 rfl rfl ?_
          refine hr_iald B hb hW tz64 rfl (by omega) (by omega) dX2_clap_74 (fun z74 iz74 pz74 xz74 => ?_)
          refine hr_ic hx hb dX2_clap_75 (by decide) (fun z75 hz75 => ?_)
          refine lv_iadd hx hb dX2_clap_76 (lv_topi (fun z76 hz76 => ?_))
          refine hr_iastN (Ex' := (fun ws => Ex ws ∧ te a0 a8 (cys 0) f ws)) B hb hU hW hS tz64 rfl (by omega) (by omega) ⟨ck_lo _, ck_hi _⟩ (hr_EA (i := z72) hX2 tz64 (u := 0) (v := 7) (by omega) (by omega) (by decide)) (u := 0) (v := 7) (by omega) (by omega) (by decide) dX2_clap_77 (fun H locs hW hS => ?_)
          refine lv_aload_n hx hb dX2_clap_78 rfl (lv_at hl 3 rfl) ?_
          refine lv_dup hx hb dX2_clap_79 rfl ?_
          refine hr_getI B hF hb hW (ci := 2) (j := 5) (cd := 0) t0 rfl (isF (by decide +kernel)) rfl dX2_clap_80 (fun z80 lz80 uz80 pz80 xz80 => ?_)
          refine hr_ic hx hb dX2_clap_83 (by decide) (fun z83 hz83 => ?_)
          refine lv_iadd hx hb dX2_clap_84 (lv_topi (fun z84 hz84 => ?_))
          refine hr_putN (Ex' := (fun ws => Ex ws ∧ te a0 a8 (cys 0) f ws)) B hF hb hU hW hS (ci := 2) (j := 5) (cd := 0) t0 rfl (isF (by decide +kernel)) rfl (ck_lo _) (ck_hi _) (Or.inl rfl) (hr_EO hX2 t0 (by decide)) (by decide) dX2_clap_85 (fun H locs hW hS => ?_)
          have hW := hr_mono (fun _ h => h.1) hW
          exact cm_vret B hb rfl ⟨_, List.mem_cons_self, True.intro, (fun q h => nomatch h), hr_wk (hr_self hp0) (by decide +kernel)⟩ hW hS dX2_clap_88
      · refine lv_aload_n hx hb dX2_clap_17 rfl (lv_at hl 3 rfl) ?_
        refine hr_getR B hF hb hW (ci := 2) (j := 8) (cd := 3) t0 rfl (isF (by decide +kernel)) rfl dX2_clap_18 (fun az18 tz18 xz18 => ?_)
        obtain rfl := te_xo xz18
        refine lv_iload hx hb dX2_clap_21 (lv_at hl 0 rfl) ?_
        refine hr_iald B hb hW t8 rfl (by omega) (by omega) dX2_clap_23 (fun z23 iz23 pz23 xz23 => ?_)
        have iz23 := hr_inr iz23 (a := 0) (b := 5) (lo := -1) (hi := 7) (by omega) (by omega) (by decide +kernel)
        have y23 := congrArg Int32.toInt (te_xa xz23 (by omega))
        refine hr_ic hx hb dX2_clap_24 (by decide) (fun z24 hz24 => ?_)
        refine hr_eq (tgt := 52) hx hb dX2_clap_25 (by decide) (fun h25 => ?_) (fun h25 => ?_)
        · refine hr_inc hx hb dX2_clap_52 hl (kq := 0) (lv' := fun v => [(5, .int v), (4, .int mo), (3, .int lk), (0, .ref a0), (1, .ref a1), (2, .int x2)]) rfl (by decide) (by decide) (by omega) (by omega) (fun _ => rfl) (fun z52 ls hz52 hl => ?_)
          refine lv_goto (tgt := 8) hx hb dX2_clap_55 (by decide) ?_
          exact ih8 z52 mo lk _ _ _ (by omega) (by omega) (by omega) (by omega) hl hW hS
        · refine lv_aload_n hx hb dX2_clap_28 rfl (lv_at hl 4 rfl) ?_
          refine lv_iload_n hx hb dX2_clap_29 rfl (lv_at hl 5 rfl) ?_
          refine lv_iload hx hb dX2_clap_30 (lv_at hl 0 rfl) ?_
          refine cm_callV (kc := kc_21) B rfl hb hl (hM.1 _ _ 0 [21, 22] (isM (by decide +kernel)) 21 (by decide)) (hHA _ hX2 21 (by decide)) (b := a1) (As := [.int x2, .int pp]) ⟨hr_aR t1, hr_aI (by omega) (by omega), hr_aI (by omega) (by omega), True.intro⟩ hp hW hS rfl (by decide) (by decide) (Nat.le_of_ble_eq_true rfl) dX2_clap_32 (fun cs hcs r pvv32 H locs hca hW hS => ?_)
          obtain rfl := List.mem_singleton.mp hcs
          obtain ⟨hr, hq, hc⟩ := hca
          obtain ⟨z32, rfl, lz32, uz32⟩ := hr_rvI hr
          have hW := hr_pvE (hr_sameA hc rfl (by decide +kernel)) hW
          refine lv_iload hx hb dX2_clap_35 (lv_at hl 1 rfl) ?_
          refine hr_le (tgt := 52) hx hb dX2_clap_37 (by decide) (fun h37 => ?_) (fun h37 => ?_)
          · refine hr_inc hx hb dX2_clap_52 hl (kq := 0) (lv' := fun v => [(5, .int v), (4, .int mo), (3, .int lk), (0, .ref a0), (1, .ref a1), (2, .int x2)]) rfl (by decide) (by decide) (by omega) (by omega) (fun _ => rfl) (fun z52 ls hz52 hl => ?_)
            refine lv_goto (tgt := 8) hx hb dX2_clap_55 (by decide) ?_
            exact ih8 z52 mo lk _ _ _ (by omega) (by omega) (by omega) (by omega) hl hW hS
          · refine lv_aload_n hx hb dX2_clap_40 rfl (lv_at hl 4 rfl) ?_
            refine lv_iload_n hx hb dX2_clap_41 rfl (lv_at hl 5 rfl) ?_
            refine lv_iload hx hb dX2_clap_42 (lv_at hl 0 rfl) ?_
            refine cm_callV (kc := kc_21) B rfl hb hl (hM.1 _ _ 0 [21, 22] (isM (by decide +kernel)) 21 (by decide)) (hHA _ hX2 21 (by decide)) (b := a1) (As := [.int x2, .int pp]) ⟨hr_aR t1, hr_aI (by omega) (by omega), hr_aI (by omega) (by omega), True.intro⟩ hp hW hS rfl (by decide) (by decide) (Nat.le_of_ble_eq_true rfl) dX2_clap_44 (fun cs hcs r pvv44 H locs hca hW hS => ?_)
            obtain rfl := List.mem_singleton.mp hcs
            obtain ⟨hr, hq, hc⟩ := hca
            obtain ⟨z44, rfl, lz44, uz44⟩ := hr_rvI hr
            have hW := hr_pvE (hr_sameA hc rfl (by decide +kernel)) hW
            refine lv_istore hx hb dX2_clap_47 hl (lv' := [(4, .int z44), (5, .int pp), (3, .int lk), (0, .ref a0), (1, .ref a1), (2, .int x2)]) (by decide) rfl (fun ls hl => ?_)
            refine lv_iload hx hb dX2_clap_49 (lv_at hl 1 rfl) ?_
            refine lv_istore_n hx hb dX2_clap_51 rfl hl (lv' := [(3, .int pp), (4, .int z44), (5, .int pp), (0, .ref a0), (1, .ref a1), (2, .int x2)]) (by decide) rfl (fun ls hl => ?_)
            refine hr_inc hx hb dX2_clap_52 hl (kq := 2) (lv' := fun v => [(5, .int v), (3, .int pp), (4, .int z44), (0, .ref a0), (1, .ref a1), (2, .int x2)]) rfl (by decide) (by decide) (by omega) (by omega) (fun _ => rfl) (fun z52 ls hz52 hl => ?_)
            refine lv_goto (tgt := 8) hx hb dX2_clap_55 (by decide) ?_
            exact ih8 z52 z44 pp _ _ _ (by omega) (by omega) (by omega) (by omega) (lv_sub hl [0, 2, 1, 3, 4, 5] rfl) hW hS
  refine hr_ic hx hb dX2_clap_0 (by decide) (fun z0 hz0 => ?_)
  refine lv_istore_n hx hb dX2_clap_1 rfl hl (lv' := [(3, .int z0), (0, .ref a0), (1, .ref a1), (2, .int x2)]) (by decide) rfl (fun ls hl => ?_)
  refine hr_ic hx hb dX2_clap_2 (by decide) (fun z2 hz2 => ?_)
  refine lv_istore hx hb dX2_clap_3 hl (lv' := [(4, .int z2), (3, .int z0), (0, .ref a0), (1, .ref a1), (2, .int x2)]) (by decide) rfl (fun ls hl => ?_)
  refine hr_ic hx hb dX2_clap_5 (by decide) (fun z5 hz5 => ?_)
  refine lv_istore hx hb dX2_clap_6 hl (lv' := [(5, .int z5), (4, .int z2), (3, .int z0), (0, .ref a0), (1, .ref a1), (2, .int x2)]) (by decide) rfl (fun ls hl => ?_)
  exact l8 7 z5 z2 z0 _ _ _ (by omega) (by omega) (by omega) (by omega) hl hW hS
theorem dX2_endAct_0 : decode cX2_endAct 0 = .ok (.aload_n 0, 1) := by decide +kernel
theorem dX2_endAct_1 : decode cX2_endAct 1 = .ok (.invokevirtual 131, 3) := by decide +kernel
theorem dX2_endAct_4 : decode cX2_endAct 4 = .ok (.istore_n 2, 1) := by decide +kernel
theorem dX2_endAct_5 : decode cX2_endAct 5 = .ok (.iconst 0, 1) := by decide +kernel
theorem dX2_endAct_6 : decode cX2_endAct 6 = .ok (.istore_n 3, 1) := by decide +kernel
theorem dX2_endAct_7 : decode cX2_endAct 7 = .ok (.iload_n 3, 1) := by decide +kernel
theorem dX2_endAct_8 : decode cX2_endAct 8 = .ok (.aload_n 1, 1) := by decide +kernel
theorem dX2_endAct_9 : decode cX2_endAct 9 = .ok (.getfield 124, 3) := by decide +kernel
theorem dX2_endAct_12 : decode cX2_endAct 12 = .ok (.if_icmp .ge 44, 3) := by decide +kernel
theorem dX2_endAct_15 : decode cX2_endAct 15 = .ok (.iload_n 2, 1) := by decide +kernel
theorem dX2_endAct_16 : decode cX2_endAct 16 = .ok (.iload_n 3, 1) := by decide +kernel
theorem dX2_endAct_17 : decode cX2_endAct 17 = .ok (.invokestatic 81, 3) := by decide +kernel
theorem dX2_endAct_20 : decode cX2_endAct 20 = .ok (.ifCond .ne 24, 3) := by decide +kernel
theorem dX2_endAct_23 : decode cX2_endAct 23 = .ok (.aload_n 0, 1) := by decide +kernel
theorem dX2_endAct_24 : decode cX2_endAct 24 = .ok (.dup, 1) := by decide +kernel
theorem dX2_endAct_25 : decode cX2_endAct 25 = .ok (.getfield 24, 3) := by decide +kernel
theorem dX2_endAct_28 : decode cX2_endAct 28 = .ok (.aload_n 1, 1) := by decide +kernel
theorem dX2_endAct_29 : decode cX2_endAct 29 = .ok (.getfield 135, 3) := by decide +kernel
theorem dX2_endAct_32 : decode cX2_endAct 32 = .ok (.iload_n 3, 1) := by decide +kernel
theorem dX2_endAct_33 : decode cX2_endAct 33 = .ok (.iaload, 1) := by decide +kernel
theorem dX2_endAct_34 : decode cX2_endAct 34 = .ok (.iadd, 1) := by decide +kernel
theorem dX2_endAct_35 : decode cX2_endAct 35 = .ok (.putfield 24, 3) := by decide +kernel
theorem dX2_endAct_38 : decode cX2_endAct 38 = .ok (.aload_n 0, 1) := by decide +kernel
theorem dX2_endAct_39 : decode cX2_endAct 39 = .ok (.aload_n 1, 1) := by decide +kernel
theorem dX2_endAct_40 : decode cX2_endAct 40 = .ok (.iload_n 3, 1) := by decide +kernel
theorem dX2_endAct_41 : decode cX2_endAct 41 = .ok (.invokevirtual 138, 3) := by decide +kernel
theorem dX2_endAct_44 : decode cX2_endAct 44 = .ok (.aload_n 0, 1) := by decide +kernel
theorem dX2_endAct_45 : decode cX2_endAct 45 = .ok (.aload_n 1, 1) := by decide +kernel
theorem dX2_endAct_46 : decode cX2_endAct 46 = .ok (.iload_n 3, 1) := by decide +kernel
theorem dX2_endAct_47 : decode cX2_endAct 47 = .ok (.invokevirtual 142, 3) := by decide +kernel
theorem dX2_endAct_50 : decode cX2_endAct 50 = .ok (.iinc 3 1, 3) := by decide +kernel
theorem dX2_endAct_53 : decode cX2_endAct 53 = .ok (.goto (-46), 3) := by decide +kernel
theorem dX2_endAct_56 : decode cX2_endAct 56 = .ok (.iconst 0, 1) := by decide +kernel
theorem dX2_endAct_57 : decode cX2_endAct 57 = .ok (.istore_n 3, 1) := by decide +kernel
theorem dX2_endAct_58 : decode cX2_endAct 58 = .ok (.iload_n 3, 1) := by decide +kernel
theorem dX2_endAct_59 : decode cX2_endAct 59 = .ok (.aload_n 1, 1) := by decide +kernel
theorem dX2_endAct_60 : decode cX2_endAct 60 = .ok (.getfield 118, 3) := by decide +kernel
theorem dX2_endAct_63 : decode cX2_endAct 63 = .ok (.if_icmp .ge 87, 3) := by decide +kernel
theorem dX2_endAct_66 : decode cX2_endAct 66 = .ok (.aload_n 0, 1) := by decide +kernel
theorem dX2_endAct_67 : decode cX2_endAct 67 = .ok (.getfield 36, 3) := by decide +kernel
theorem dX2_endAct_70 : decode cX2_endAct 70 = .ok (.iload_n 3, 1) := by decide +kernel
theorem dX2_endAct_71 : decode cX2_endAct 71 = .ok (.iaload, 1) := by decide +kernel
theorem dX2_endAct_72 : decode cX2_endAct 72 = .ok (.iconst (-1), 1) := by decide +kernel
theorem dX2_endAct_73 : decode cX2_endAct 73 = .ok (.if_icmp .eq 71, 3) := by decide +kernel
theorem dX2_endAct_76 : decode cX2_endAct 76 = .ok (.aload_n 0, 1) := by decide +kernel
theorem dX2_endAct_77 : decode cX2_endAct 77 = .ok (.dup, 1) := by decide +kernel
theorem dX2_endAct_78 : decode cX2_endAct 78 = .ok (.getfield 15, 3) := by decide +kernel
theorem dX2_endAct_81 : decode cX2_endAct 81 = .ok (.aload_n 1, 1) := by decide +kernel
theorem dX2_endAct_82 : decode cX2_endAct 82 = .ok (.aload_n 0, 1) := by decide +kernel
theorem dX2_endAct_83 : decode cX2_endAct 83 = .ok (.getfield 36, 3) := by decide +kernel
theorem dX2_endAct_86 : decode cX2_endAct 86 = .ok (.iload_n 3, 1) := by decide +kernel
theorem dX2_endAct_87 : decode cX2_endAct 87 = .ok (.iaload, 1) := by decide +kernel
theorem dX2_endAct_88 : decode cX2_endAct 88 = .ok (.iload_n 3, 1) := by decide +kernel
theorem dX2_endAct_89 : decode cX2_endAct 89 = .ok (.invokevirtual 145, 3) := by decide +kernel
theorem dX2_endAct_92 : decode cX2_endAct 92 = .ok (.iadd, 1) := by decide +kernel
theorem dX2_endAct_93 : decode cX2_endAct 93 = .ok (.putfield 15, 3) := by decide +kernel
theorem dX2_endAct_96 : decode cX2_endAct 96 = .ok (.aload_n 0, 1) := by decide +kernel
theorem dX2_endAct_97 : decode cX2_endAct 97 = .ok (.dup, 1) := by decide +kernel
theorem dX2_endAct_98 : decode cX2_endAct 98 = .ok (.getfield 18, 3) := by decide +kernel
theorem dX2_endAct_101 : decode cX2_endAct 101 = .ok (.aload_n 0, 1) := by decide +kernel
theorem dX2_endAct_102 : decode cX2_endAct 102 = .ok (.aload_n 1, 1) := by decide +kernel
theorem dX2_endAct_103 : decode cX2_endAct 103 = .ok (.aload_n 0, 1) := by decide +kernel
theorem dX2_endAct_104 : decode cX2_endAct 104 = .ok (.getfield 36, 3) := by decide +kernel
theorem dX2_endAct_107 : decode cX2_endAct 107 = .ok (.iload_n 3, 1) := by decide +kernel
theorem dX2_endAct_108 : decode cX2_endAct 108 = .ok (.iaload, 1) := by decide +kernel
theorem dX2_endAct_109 : decode cX2_endAct 109 = .ok (.iload_n 3, 1) := by decide +kernel
theorem dX2_endAct_110 : decode cX2_endAct 110 = .ok (.invokevirtual 148, 3) := by decide +kernel
theorem dX2_endAct_113 : decode cX2_endAct 113 = .ok (.iadd, 1) := by decide +kernel
theorem dX2_endAct_114 : decode cX2_endAct 114 = .ok (.putfield 18, 3) := by decide +kernel
theorem dX2_endAct_117 : decode cX2_endAct 117 = .ok (.aload_n 0, 1) := by decide +kernel
theorem dX2_endAct_118 : decode cX2_endAct 118 = .ok (.getfield 46, 3) := by decide +kernel
theorem dX2_endAct_121 : decode cX2_endAct 121 = .ok (.aload_n 0, 1) := by decide +kernel
theorem dX2_endAct_122 : decode cX2_endAct 122 = .ok (.getfield 36, 3) := by decide +kernel
theorem dX2_endAct_125 : decode cX2_endAct 125 = .ok (.iload_n 3, 1) := by decide +kernel
theorem dX2_endAct_126 : decode cX2_endAct 126 = .ok (.iaload, 1) := by decide +kernel
theorem dX2_endAct_127 : decode cX2_endAct 127 = .ok (.dup2, 1) := by decide +kernel
theorem dX2_endAct_128 : decode cX2_endAct 128 = .ok (.iaload, 1) := by decide +kernel
theorem dX2_endAct_129 : decode cX2_endAct 129 = .ok (.iconst 1, 1) := by decide +kernel
theorem dX2_endAct_130 : decode cX2_endAct 130 = .ok (.iadd, 1) := by decide +kernel
theorem dX2_endAct_131 : decode cX2_endAct 131 = .ok (.iastore, 1) := by decide +kernel
theorem dX2_endAct_132 : decode cX2_endAct 132 = .ok (.aload_n 0, 1) := by decide +kernel
theorem dX2_endAct_133 : decode cX2_endAct 133 = .ok (.getfield 40, 3) := by decide +kernel
theorem dX2_endAct_136 : decode cX2_endAct 136 = .ok (.iload_n 3, 1) := by decide +kernel
theorem dX2_endAct_137 : decode cX2_endAct 137 = .ok (.aload_n 0, 1) := by decide +kernel
theorem dX2_endAct_138 : decode cX2_endAct 138 = .ok (.getfield 36, 3) := by decide +kernel
theorem dX2_endAct_141 : decode cX2_endAct 141 = .ok (.iload_n 3, 1) := by decide +kernel
theorem dX2_endAct_142 : decode cX2_endAct 142 = .ok (.iaload, 1) := by decide +kernel
theorem dX2_endAct_143 : decode cX2_endAct 143 = .ok (.iastore, 1) := by decide +kernel
theorem dX2_endAct_144 : decode cX2_endAct 144 = .ok (.iinc 3 1, 3) := by decide +kernel
theorem dX2_endAct_147 : decode cX2_endAct 147 = .ok (.goto (-89), 3) := by decide +kernel
theorem dX2_endAct_150 : decode cX2_endAct 150 = .ok (.aload_n 0, 1) := by decide +kernel
theorem dX2_endAct_151 : decode cX2_endAct 151 = .ok (.iload_n 2, 1) := by decide +kernel
theorem dX2_endAct_152 : decode cX2_endAct 152 = .ok (.putfield 30, 3) := by decide +kernel
theorem dX2_endAct_155 : decode cX2_endAct 155 = .ok (.aload_n 0, 1) := by decide +kernel
theorem dX2_endAct_156 : decode cX2_endAct 156 = .ok (.iconst 0, 1) := by decide +kernel
theorem dX2_endAct_157 : decode cX2_endAct 157 = .ok (.putfield 33, 3) := by decide +kernel
theorem dX2_endAct_160 : decode cX2_endAct 160 = .ok (.aload_n 0, 1) := by decide +kernel
theorem dX2_endAct_161 : decode cX2_endAct 161 = .ok (.dup, 1) := by decide +kernel
theorem dX2_endAct_162 : decode cX2_endAct 162 = .ok (.getfield 9, 3) := by decide +kernel
theorem dX2_endAct_165 : decode cX2_endAct 165 = .ok (.iconst 1, 1) := by decide +kernel
theorem dX2_endAct_166 : decode cX2_endAct 166 = .ok (.iadd, 1) := by decide +kernel
theorem dX2_endAct_167 : decode cX2_endAct 167 = .ok (.putfield 9, 3) := by decide +kernel
theorem dX2_endAct_170 : decode cX2_endAct 170 = .ok (.aload_n 0, 1) := by decide +kernel
theorem dX2_endAct_171 : decode cX2_endAct 171 = .ok (.invokevirtual 151, 3) := by decide +kernel
theorem dX2_endAct_174 : decode cX2_endAct 174 = .ok (.return_, 1) := by decide +kernel
set_option maxRecDepth 100000 in
set_option maxHeartbeats 4000000 in
theorem hk_2_endAct (hF : ck_LKf ck_LK) (hM : ck_LKm ck_tags ck_LK ck_tab) (hU : ck_uq ty ck_pvs0) (hun : ck_un ty) (hX : ck_ExP ty ck_prot0 Ex) (hHA : ∀ Ex', ck_ExP ty ck_protA Ex' → ∀ j, j < 258 → ck_Holds l D cys ty ck_tags ck_pvs0 Ex' (ck_tab j)) (hH : ∀ j, j < 266 → ck_Holds l D cys ty ck_tags ck_pvs0 Ex (ck_tab j)) : ck_Holds l D cys ty ck_tags ck_pvs0 Ex (ck_tab 266) := by
  refine cm_enter (by decide +kernel) (by decide +kernel) (by decide +kernel) ?_
  intro vs pvv0 p e s m below meth c ls ha hp B hl hW
  have hx := B.1
  have hb : c.code = cX2_endAct := B.2.1
  have hI := pv_inj
  have hS : va_S (ck_own ty) s.heap s.heap [] := va_S.rf
  obtain ⟨_, _, rfl, ⟨a0, rfl, t0⟩, ⟨a1, rfl, t1⟩⟩ := cm_a2 ha
  have hl : lv_has ls 4 [(0, .ref a0), (1, .ref a1)] := hl
  have hp0 := hp
  have hXA := ExP_mono (prot' := ck_protA) pr0A pr0Al hX
  have l58 : ∀ (n58 : Nat) (k : Int32) (on : Int32) (ls : Array Slot) (H : Heap) (locs : List Loc), 6 - k.toInt < n58 → (0 ≤ k.toInt) → (k.toInt ≤ 6) → lv_has ls 4 [(3, .int k), (2, .int on), (0, .ref a0), (1, .ref a1)] → ck_Wo D cys ty ck_tags ck_pvs0 Ex pvv0 H → va_S (ck_own ty) s.heap H locs → W p l e (ck_rm (ck_tab 266)) s m [Value.ref a0, Value.ref a1].toArray below meth c H locs 0 0 (MQ below (ck_Qc D cys ty ck_tags ck_pvs0 Ex (ck_tab 266) [Value.ref a0, Value.ref a1] pvv0) [Value.ref a0, Value.ref a1].toArray s 0 0 (ck_own ty)) (F0 m 58 ls []) := by
    intro n58
    induction n58 with
    | zero => intro k on ls H locs hm58 k1 k2 hl hW hS; omega
    | succ n58 ih58 =>
      intro k on ls H locs hm58 k1 k2 hl hW hS
      refine lv_iload_n hx hb dX2_endAct_58 rfl (lv_at hl 0 rfl) ?_
      refine lv_aload_n hx hb dX2_endAct_59 rfl (lv_at hl 3 rfl) ?_
      refine hr_getI B hF hb hW (ci := 6) (j := 0) (cd := 0) t1 rfl (isF (by decide +kernel)) rfl dX2_endAct_60 (fun z60 lz60 uz60 pz60 xz60 => ?_)
      refine hr_ge (tgt := 150) hx hb dX2_endAct_63 (by decide) (fun h63 => ?_) (fun h63 => ?_)
      · refine lv_aload_n hx hb dX2_endAct_150 rfl (lv_at hl 2 rfl) ?_
        refine lv_iload_n hx hb dX2_endAct_151 rfl (lv_at hl 1 rfl) ?_
        refine hr_putN B hF hb hU hW hS (ci := 2) (j := 6) (cd := 0) t0 rfl (isF (by decide +kernel)) rfl (ck_lo _) (ck_hi _) (Or.inl rfl) (hr_EO hX t0 (by decide)) (by decide) dX2_endAct_152 (fun H locs hW hS => ?_)
        refine lv_aload_n hx hb dX2_endAct_155 rfl (lv_at hl 2 rfl) ?_
        refine hr_ic hx hb dX2_endAct_156 (by decide) (fun z156 hz156 => ?_)
        refine hr_putN B hF hb hU hW hS (ci := 2) (j := 7) (cd := 0) t0 rfl (isF (by decide +kernel)) rfl (ck_lo _) (ck_hi _) (Or.inl rfl) (hr_EO hX t0 (by decide)) (by decide) dX2_endAct_157 (fun H locs hW hS => ?_)
        refine lv_aload_n hx hb dX2_endAct_160 rfl (lv_at hl 2 rfl) ?_
        refine lv_dup hx hb dX2_endAct_161 rfl ?_
        refine hr_getI B hF hb hW (ci := 2) (j := 0) (cd := 0) t0 rfl (isF (by decide +kernel)) rfl dX2_endAct_162 (fun z162 lz162 uz162 pz162 xz162 => ?_)
        refine hr_ic hx hb dX2_endAct_165 (by decide) (fun z165 hz165 => ?_)
        refine lv_iadd hx hb dX2_endAct_166 (lv_topi (fun z166 hz166 => ?_))
        refine hr_putN B hF hb hU hW hS (ci := 2) (j := 0) (cd := 0) t0 rfl (isF (by decide +kernel)) rfl (ck_lo _) (ck_hi _) (Or.inl rfl) (hr_EO hX t0 (by decide)) (by decide) dX2_endAct_167 (fun H locs hW hS => ?_)
        refine lv_aload_n hx hb dX2_endAct_170 rfl (lv_at hl 2 rfl) ?_
        refine cm_callV (kc := kc_265) B rfl hb hl (hM.1 _ _ 0 [265] (isM (by decide +kernel)) 265 (by decide)) (hH 265 (by decide)) (b := a0) (As := []) ⟨hr_aR t0, True.intro⟩ hp hW hS rfl (by decide) (by decide) (Nat.le_of_ble_eq_true rfl) dX2_endAct_171 (fun cs hcs r pvv171 H locs hca hW hS => ?_)
        obtain rfl := List.mem_singleton.mp hcs
        obtain ⟨hr, hq, hc⟩ := hca
        obtain rfl := hr_rv0 hr
        have hW := hr_pvE (hr_sameA hc rfl (by decide +kernel)) hW
        exact cm_vret B hb rfl ⟨_, List.mem_cons_self, True.intro, (fun q h => nomatch h), hr_wk (hr_self hp0) (by decide +kernel)⟩ hW hS dX2_endAct_174
      · refine lv_aload_n hx hb dX2_endAct_66 rfl (lv_at hl 2 rfl) ?_
        obtain ⟨a8, f, t8, hW⟩ := hr_trf hW t0
        have hX2 := ExP_and hXA (te_ExP (cy := cys 0) (f := f) t0 t8)
        refine hr_getR B hF hb hW (ci := 2) (j := 8) (cd := 3) t0 rfl (isF (by decide +kernel)) rfl dX2_endAct_67 (fun az67 tz67 xz67 => ?_)
        obtain rfl := te_xo xz67
        refine lv_iload_n hx hb dX2_endAct_70 rfl (lv_at hl 0 rfl) ?_
        refine hr_iald B hb hW t8 rfl (by omega) (by omega) dX2_endAct_71 (fun z71 iz71 pz71 xz71 => ?_)
        have iz71 := hr_inr iz71 (a := 0) (b := 5) (lo := -1) (hi := 7) (by omega) (by omega) (by decide +kernel)
        have y71 := congrArg Int32.toInt (te_xa xz71 (by omega))
        refine hr_ic hx hb dX2_endAct_72 (by decide) (fun z72 hz72 => ?_)
        refine hr_eq (tgt := 144) hx hb dX2_endAct_73 (by decide) (fun h73 => ?_) (fun h73 => ?_)
        · have hW := hr_mono (fun _ h => h.1) hW
          refine hr_inc hx hb dX2_endAct_144 hl (kq := 0) (lv' := fun v => [(3, .int v), (2, .int on), (0, .ref a0), (1, .ref a1)]) rfl (by decide) (by decide) (by omega) (by omega) (fun _ => rfl) (fun z144 ls hz144 hl => ?_)
          refine lv_goto (tgt := 58) hx hb dX2_endAct_147 (by decide) ?_
          exact ih58 z144 on _ _ _ (by omega) (by omega) (by omega) hl hW hS
        · refine lv_aload_n hx hb dX2_endAct_76 rfl (lv_at hl 2 rfl) ?_
          refine lv_dup hx hb dX2_endAct_77 rfl ?_
          refine hr_getI B hF hb hW (ci := 2) (j := 1) (cd := 0) t0 rfl (isF (by decide +kernel)) rfl dX2_endAct_78 (fun z78 lz78 uz78 pz78 xz78 => ?_)
          refine lv_aload_n hx hb dX2_endAct_81 rfl (lv_at hl 3 rfl) ?_
          refine lv_aload_n hx hb dX2_endAct_82 rfl (lv_at hl 2 rfl) ?_
          refine hr_getR B hF hb hW (ci := 2) (j := 8) (cd := 3) t0 rfl (isF (by decide +kernel)) rfl dX2_endAct_83 (fun az83 tz83 xz83 => ?_)
          obtain rfl := te_xo xz83
          refine lv_iload_n hx hb dX2_endAct_86 rfl (lv_at hl 0 rfl) ?_
          refine hr_iald B hb hW t8 rfl (by omega) (by omega) dX2_endAct_87 (fun z87 iz87 pz87 xz87 => ?_)
          have iz87 := hr_inr iz87 (a := 0) (b := 5) (lo := -1) (hi := 7) (by omega) (by omega) (by decide +kernel)
          have y87 := congrArg Int32.toInt (te_xa xz87 (by omega))
          refine lv_iload_n hx hb dX2_endAct_88 rfl (lv_at hl 0 rfl) ?_
          refine cm_callV (kc := kc_21) B rfl hb hl (hM.1 _ _ 0 [21, 22] (isM (by decide +kernel)) 21 (by decide)) (hHA _ hX2 21 (by decide)) (b := a1) (As := [.int z87, .int k]) ⟨hr_aR t1, hr_aI (by omega) (by omega), hr_aI (by omega) (by omega), True.intro⟩ hp hW hS rfl (by decide) (by decide) (Nat.le_of_ble_eq_true rfl) dX2_endAct_89 (fun cs hcs r pvv89 H locs hca hW hS => ?_)
          obtain rfl := List.mem_singleton.mp hcs
          obtain ⟨hr, hq, hc⟩ := hca
          obtain ⟨z89, rfl, lz89, uz89⟩ := hr_rvI hr
          have hW := hr_pvE (hr_sameA hc rfl (by decide +kernel)) hW
          refine lv_iadd hx hb dX2_endAct_92 (lv_topi (fun z92 hz92 => ?_))
          refine hr_putN (Ex' := (fun ws => Ex ws ∧ te a0 a8 (cys 0) f ws)) B hF hb hU hW hS (ci := 2) (j := 1) (cd := 0) t0 rfl (isF (by decide +kernel)) rfl (ck_lo _) (ck_hi _) (Or.inl rfl) (hr_EO hX2 t0 (by decide)) (by decide) dX2_endAct_93 (fun H locs hW hS => ?_)
          refine lv_aload_n hx hb dX2_endAct_96 rfl (lv_at hl 2 rfl) ?_
          refine lv_dup hx hb dX2_endAct_97 rfl ?_
          refine hr_getI B hF hb hW (ci := 2) (j := 2) (cd := 0) t0 rfl (isF (by decide +kernel)) rfl dX2_endAct_98 (fun z98 lz98 uz98 pz98 xz98 => ?_)
          refine lv_aload_n hx hb dX2_endAct_101 rfl (lv_at hl 2 rfl) ?_
          refine lv_aload_n hx hb dX2_endAct_102 rfl (lv_at hl 3 rfl) ?_
          refine lv_aload_n hx hb dX2_endAct_103 rfl (lv_at hl 2 rfl) ?_
          refine hr_getR B hF hb hW (ci := 2) (j := 8) (cd := 3) t0 rfl (isF (by decide +kernel)) rfl dX2_endAct_104 (fun az104 tz104 xz104 => ?_)
          obtain rfl := te_xo xz104
          refine lv_iload_n hx hb dX2_endAct_107 rfl (lv_at hl 0 rfl) ?_
          refine hr_iald B hb hW t8 rfl (by omega) (by omega) dX2_endAct_108 (fun z108 iz108 pz108 xz108 => ?_)
          have iz108 := hr_inr iz108 (a := 0) (b := 5) (lo := -1) (hi := 7) (by omega) (by omega) (by decide +kernel)
          have y108 := congrArg Int32.toInt (te_xa xz108 (by omega))
          refine lv_iload_n hx hb dX2_endAct_109 rfl (lv_at hl 0 rfl) ?_
          refine cm_callV (kc := kc_32) B rfl hb hl (hM.1 _ _ 0 [32] (isM (by decide +kernel)) 32 (by decide)) (hHA _ hX2 32 (by decide)) (b := a0) (As := [.ref a1, .int z108, .int k]) ⟨hr_aR t0, hr_aR t1, hr_aI (by omega) (by omega), hr_aI (by omega) (by omega), True.intro⟩ hp hW hS rfl (by decide) (by decide) (Nat.le_of_ble_eq_true rfl) dX2_endAct_110 (fun cs hcs r pvv110 H locs hca hW hS => ?_)
          obtain rfl := List.mem_singleton.mp hcs
          obtain ⟨hr, hq, hc⟩ := hca
          obtain ⟨z110, rfl, lz110, uz110⟩ := hr_rvI hr
          have hW := hr_pvE (hr_sameA hc rfl (by decide +kernel)) hW
          refine lv_iadd hx hb dX2_endAct_113 (lv_topi (fun z113 hz113 => ?_))
          refine hr_putN (Ex' := (fun ws => Ex ws ∧ te a0 a8 (cys 0) f ws)) B hF hb hU hW hS (ci := 2) (j := 2) (cd := 0) t0 rfl (isF (by decide +kernel)) rfl (ck_lo _) (ck_hi _) (Or.inl rfl) (hr_EO hX2 t0 (by decide)) (by decide) dX2_endAct_114 (fun H locs hW hS => ?_)
          refine lv_aload_n hx hb dX2_endAct_117 rfl (lv_at hl 2 rfl) ?_
          refine hr_getR B hF hb hW (ci := 2) (j := 11) (cd := 3) t0 rfl (isF (by decide +kernel)) rfl dX2_endAct_118 (fun az118 tz118 xz118 => ?_)
          refine lv_aload_n hx hb dX2_endAct_121 rfl (lv_at hl 2 rfl) ?_
          refine hr_getR B hF hb hW (ci := 2) (j := 8) (cd := 3) t0 rfl (isF (by decide +kernel)) rfl dX2_endAct_122 (fun az122 tz122 xz122 => ?_)
          obtain rfl := te_xo xz122
          refine lv_iload_n hx hb dX2_endAct_125 rfl (lv_at hl 0 rfl) ?_
          refine hr_iald B hb hW t8 rfl (by omega) (by omega) dX2_endAct_126 (fun z126 iz126 pz126 xz126 => ?_)
          have iz126 := hr_inr iz126 (a := 0) (b := 5) (lo := -1) (hi := 7) (by omega) (by omega) (by decide +kernel)
          have y126 := congrArg Int32.toInt (te_xa xz126 (by omega))
          refine lv_dup2_11 hx hb dX2_endAct_127 rfl rfl ?_
          refine hr_iald B hb hW tz118 rfl (by omega) (by omega) dX2_endAct_128 (fun z128 iz128 pz128 xz128 => ?_)
          refine hr_ic hx hb dX2_endAct_129 (by decide) (fun z129 hz129 => ?_)
          refine lv_iadd hx hb dX2_endAct_130 (lv_topi (fun z130 hz130 => ?_))
          refine hr_iastN (Ex' := (fun ws => Ex ws ∧ te a0 a8 (cys 0) f ws)) B hb hU hW hS tz118 rfl (by omega) (by omega) ⟨ck_lo _, ck_hi _⟩ (hr_EA (i := z126) hX2 tz118 (u := 0) (v := 7) (by omega) (by omega) (by decide)) (u := 0) (v := 7) (by omega) (by omega) (by decide) dX2_endAct_131 (fun H locs hW hS => ?_)
          refine lv_aload_n hx hb dX2_endAct_132 rfl (lv_at hl 2 rfl) ?_
          refine hr_getR B hF hb hW (ci := 2) (j := 9) (cd := 3) t0 rfl (isF (by decide +kernel)) rfl dX2_endAct_133 (fun az133 tz133 xz133 => ?_)
          refine lv_iload_n hx hb dX2_endAct_136 rfl (lv_at hl 0 rfl) ?_
          refine lv_aload_n hx hb dX2_endAct_137 rfl (lv_at hl 2 rfl) ?_
          refine hr_getR B hF hb hW (ci := 2) (j := 8) (cd := 3) t0 rfl (isF (by decide +kernel)) rfl dX2_endAct_138 (fun az138 tz138 xz138 => ?_)
          obtain rfl := te_xo xz138
          refine lv_iload_n hx hb dX2_endAct_141 rfl (lv_at hl 0 rfl) ?_
          refine hr_iald B hb hW t8 rfl (by omega) (by omega) dX2_endAct_142 (fun z142 iz142 pz142 xz142 => ?_)
          have iz142 := hr_inr iz142 (a := 0) (b := 5) (lo := -1) (hi := 7) (by omega) (by omega) (by decide +kernel)
          have y142 := congrArg Int32.toInt (te_xa xz142 (by omega))
          have hW := hr_mono (fun _ h => h.1) hW
          refine hr_iastN B hb hU hW hS tz133 rfl (by omega) (by omega) (hr_ins (a := 0) (b := 5) (lo := -1) (hi := 7) (by omega) (by omega) (by decide +kernel) (by omega) (by omega)) (hr_EA (i := k) hX tz133 (u := 0) (v := 5) (by omega) (by omega) (by decide)) (u := 0) (v := 5) (by omega) (by omega) (by decide) dX2_endAct_143 (fun H locs hW hS => ?_)
          refine hr_inc hx hb dX2_endAct_144 hl (kq := 0) (lv' := fun v => [(3, .int v), (2, .int on), (0, .ref a0), (1, .ref a1)]) rfl (by decide) (by decide) (by omega) (by omega) (fun _ => rfl) (fun z144 ls hz144 hl => ?_)
          refine lv_goto (tgt := 58) hx hb dX2_endAct_147 (by decide) ?_
          exact ih58 z144 on _ _ _ (by omega) (by omega) (by omega) hl hW hS
  have l7 : ∀ (n7 : Nat) (k : Int32) (on : Int32) (ls : Array Slot) (H : Heap) (locs : List Loc), 8 - k.toInt < n7 → (0 ≤ k.toInt) → (k.toInt ≤ 8) → lv_has ls 4 [(3, .int k), (2, .int on), (0, .ref a0), (1, .ref a1)] → ck_Wo D cys ty ck_tags ck_pvs0 Ex pvv0 H → va_S (ck_own ty) s.heap H locs → W p l e (ck_rm (ck_tab 266)) s m [Value.ref a0, Value.ref a1].toArray below meth c H locs 0 0 (MQ below (ck_Qc D cys ty ck_tags ck_pvs0 Ex (ck_tab 266) [Value.ref a0, Value.ref a1] pvv0) [Value.ref a0, Value.ref a1].toArray s 0 0 (ck_own ty)) (F0 m 7 ls []) := by
    intro n7
    induction n7 with
    | zero => intro k on ls H locs hm7 k1 k2 hl hW hS; omega
    | succ n7 ih7 =>
      intro k on ls H locs hm7 k1 k2 hl hW hS
      refine lv_iload_n hx hb dX2_endAct_7 rfl (lv_at hl 0 rfl) ?_
      refine lv_aload_n hx hb dX2_endAct_8 rfl (lv_at hl 3 rfl) ?_
      refine hr_getI B hF hb hW (ci := 6) (j := 2) (cd := 0) t1 rfl (isF (by decide +kernel)) rfl dX2_endAct_9 (fun z9 lz9 uz9 pz9 xz9 => ?_)
      refine hr_ge (tgt := 56) hx hb dX2_endAct_12 (by decide) (fun h12 => ?_) (fun h12 => ?_)
      · refine hr_ic hx hb dX2_endAct_56 (by decide) (fun z56 hz56 => ?_)
        refine lv_istore_n hx hb dX2_endAct_57 rfl hl (lv' := [(3, .int z56), (2, .int on), (0, .ref a0), (1, .ref a1)]) (by decide) rfl (fun ls hl => ?_)
        exact l58 7 z56 on _ _ _ (by omega) (by omega) (by omega) hl hW hS
      · refine lv_iload_n hx hb dX2_endAct_15 rfl (lv_at hl 1 rfl) ?_
        refine lv_iload_n hx hb dX2_endAct_16 rfl (lv_at hl 0 rfl) ?_
        refine cm_callSN (kc := kc_2) B rfl hb hl (hM.1 _ _ 2 [2] (isM (by decide +kernel)) 2 (by decide)) (hH 2 (by decide)) (As := [.int on, .int k]) ⟨hr_aF, hr_aF, True.intro⟩ hp hW hS rfl (by decide) (by decide) (Nat.le_of_ble_eq_true rfl) dX2_endAct_17 (fun cs hcs r pvv17 H locs hca hW hS => ?_)
        rcases List.mem_cons.mp hcs with rfl | hcs
        · obtain ⟨hr, hq, hc⟩ := hca
          obtain ⟨z17, rfl, lz17, uz17⟩ := hr_rvI hr
          have hW := hr_pvE (hr_sameA hc rfl (by decide +kernel)) hW
          refine hr_ne0 (tgt := 44) hx hb dX2_endAct_20 (by decide) (fun h20 => ?_) (fun h20 => ?_)
          · refine lv_aload_n hx hb dX2_endAct_44 rfl (lv_at hl 2 rfl) ?_
            refine lv_aload_n hx hb dX2_endAct_45 rfl (lv_at hl 3 rfl) ?_
            refine lv_iload_n hx hb dX2_endAct_46 rfl (lv_at hl 0 rfl) ?_
            refine cm_callV (kc := kc_30) B rfl hb hl (hM.1 _ _ 0 [30] (isM (by decide +kernel)) 30 (by decide)) (hH 30 (by decide)) (b := a0) (As := [.ref a1, .int k]) ⟨hr_aR t0, hr_aR t1, hr_aI (by omega) (by omega), True.intro⟩ hp hW hS rfl (by decide) (by decide) (Nat.le_of_ble_eq_true rfl) dX2_endAct_47 (fun cs hcs r pvv47 H locs hca hW hS => ?_)
            obtain rfl := List.mem_singleton.mp hcs
            obtain ⟨hr, hq, hc⟩ := hca
            obtain rfl := hr_rv0 hr
            have hW := hr_pvE (hr_sameA hc rfl (by decide +kernel)) hW
            refine hr_inc hx hb dX2_endAct_50 hl (kq := 0) (lv' := fun v => [(3, .int v), (2, .int on), (0, .ref a0), (1, .ref a1)]) rfl (by decide) (by decide) (by omega) (by omega) (fun _ => rfl) (fun z50 ls hz50 hl => ?_)
            refine lv_goto (tgt := 7) hx hb dX2_endAct_53 (by decide) ?_
            exact ih7 z50 on _ _ _ (by omega) (by omega) (by omega) hl hW hS
          · refine lv_aload_n hx hb dX2_endAct_23 rfl (lv_at hl 2 rfl) ?_
            refine lv_dup hx hb dX2_endAct_24 rfl ?_
            refine hr_getI B hF hb hW (ci := 2) (j := 4) (cd := 0) t0 rfl (isF (by decide +kernel)) rfl dX2_endAct_25 (fun z25 lz25 uz25 pz25 xz25 => ?_)
            refine lv_aload_n hx hb dX2_endAct_28 rfl (lv_at hl 3 rfl) ?_
            refine hr_getR B hF hb hW (ci := 6) (j := 13) (cd := 3) t1 rfl (isF (by decide +kernel)) rfl dX2_endAct_29 (fun az29 tz29 xz29 => ?_)
            refine lv_iload_n hx hb dX2_endAct_32 rfl (lv_at hl 0 rfl) ?_
            refine hr_iald B hb hW tz29 rfl (by omega) (by omega) dX2_endAct_33 (fun z33 iz33 pz33 xz33 => ?_)
            refine lv_iadd hx hb dX2_endAct_34 (lv_topi (fun z34 hz34 => ?_))
            refine hr_putN B hF hb hU hW hS (ci := 2) (j := 4) (cd := 0) t0 rfl (isF (by decide +kernel)) rfl (ck_lo _) (ck_hi _) (Or.inl rfl) (hr_EO hX t0 (by decide)) (by decide) dX2_endAct_35 (fun H locs hW hS => ?_)
            refine lv_aload_n hx hb dX2_endAct_38 rfl (lv_at hl 2 rfl) ?_
            refine lv_aload_n hx hb dX2_endAct_39 rfl (lv_at hl 3 rfl) ?_
            refine lv_iload_n hx hb dX2_endAct_40 rfl (lv_at hl 0 rfl) ?_
            refine cm_callV (kc := kc_29) B rfl hb hl (hM.1 _ _ 0 [29] (isM (by decide +kernel)) 29 (by decide)) (hH 29 (by decide)) (b := a0) (As := [.ref a1, .int k]) ⟨hr_aR t0, hr_aR t1, hr_aI (by omega) (by omega), True.intro⟩ hp hW hS rfl (by decide) (by decide) (Nat.le_of_ble_eq_true rfl) dX2_endAct_41 (fun cs hcs r pvv41 H locs hca hW hS => ?_)
            obtain rfl := List.mem_singleton.mp hcs
            obtain ⟨hr, hq, hc⟩ := hca
            obtain rfl := hr_rv0 hr
            have hW := hr_pvE (hr_sameA hc rfl (by decide +kernel)) hW
            refine lv_aload_n hx hb dX2_endAct_44 rfl (lv_at hl 2 rfl) ?_
            refine lv_aload_n hx hb dX2_endAct_45 rfl (lv_at hl 3 rfl) ?_
            refine lv_iload_n hx hb dX2_endAct_46 rfl (lv_at hl 0 rfl) ?_
            refine cm_callV (kc := kc_30) B rfl hb hl (hM.1 _ _ 0 [30] (isM (by decide +kernel)) 30 (by decide)) (hH 30 (by decide)) (b := a0) (As := [.ref a1, .int k]) ⟨hr_aR t0, hr_aR t1, hr_aI (by omega) (by omega), True.intro⟩ hp hW hS rfl (by decide) (by decide) (Nat.le_of_ble_eq_true rfl) dX2_endAct_47 (fun cs hcs r pvv47 H locs hca hW hS => ?_)
            obtain rfl := List.mem_singleton.mp hcs
            obtain ⟨hr, hq, hc⟩ := hca
            obtain rfl := hr_rv0 hr
            have hW := hr_pvE (hr_sameA hc rfl (by decide +kernel)) hW
            refine hr_inc hx hb dX2_endAct_50 hl (kq := 0) (lv' := fun v => [(3, .int v), (2, .int on), (0, .ref a0), (1, .ref a1)]) rfl (by decide) (by decide) (by omega) (by omega) (fun _ => rfl) (fun z50 ls hz50 hl => ?_)
            refine lv_goto (tgt := 7) hx hb dX2_endAct_53 (by decide) ?_
            exact ih7 z50 on _ _ _ (by omega) (by omega) (by omega) hl hW hS
        obtain rfl := List.mem_singleton.mp hcs
        obtain ⟨hr, hq, hc⟩ := hca
        obtain ⟨z17, rfl, lz17, uz17⟩ := hr_rvI hr
        have hW := hr_pvE (hr_sameA hc rfl (by decide +kernel)) hW
        refine hr_ne0 (tgt := 44) hx hb dX2_endAct_20 (by decide) (fun h20 => ?_) (fun h20 => ?_)
        · refine lv_aload_n hx hb dX2_endAct_44 rfl (lv_at hl 2 rfl) ?_
          refine lv_aload_n hx hb dX2_endAct_45 rfl (lv_at hl 3 rfl) ?_
          refine lv_iload_n hx hb dX2_endAct_46 rfl (lv_at hl 0 rfl) ?_
          refine cm_callV (kc := kc_30) B rfl hb hl (hM.1 _ _ 0 [30] (isM (by decide +kernel)) 30 (by decide)) (hH 30 (by decide)) (b := a0) (As := [.ref a1, .int k]) ⟨hr_aR t0, hr_aR t1, hr_aI (by omega) (by omega), True.intro⟩ hp hW hS rfl (by decide) (by decide) (Nat.le_of_ble_eq_true rfl) dX2_endAct_47 (fun cs hcs r pvv47 H locs hca hW hS => ?_)
          obtain rfl := List.mem_singleton.mp hcs
          obtain ⟨hr, hq, hc⟩ := hca
          obtain rfl := hr_rv0 hr
          have hW := hr_pvE (hr_sameA hc rfl (by decide +kernel)) hW
          refine hr_inc hx hb dX2_endAct_50 hl (kq := 0) (lv' := fun v => [(3, .int v), (2, .int on), (0, .ref a0), (1, .ref a1)]) rfl (by decide) (by decide) (by omega) (by omega) (fun _ => rfl) (fun z50 ls hz50 hl => ?_)
          refine lv_goto (tgt := 7) hx hb dX2_endAct_53 (by decide) ?_
          exact ih7 z50 on _ _ _ (by omega) (by omega) (by omega) hl hW hS
        · refine lv_aload_n hx hb dX2_endAct_23 rfl (lv_at hl 2 rfl) ?_
          refine lv_dup hx hb dX2_endAct_24 rfl ?_
          refine hr_getI B hF hb hW (ci := 2) (j := 4) (cd := 0) t0 rfl (isF (by decide +kernel)) rfl dX2_endAct_25 (fun z25 lz25 uz25 pz25 xz25 => ?_)
          refine lv_aload_n hx hb dX2_endAct_28 rfl (lv_at hl 3 rfl) ?_
          refine hr_getR B hF hb hW (ci := 6) (j := 13) (cd := 3) t1 rfl (isF (by decide +kernel)) rfl dX2_endAct_29 (fun az29 tz29 xz29 => ?_)
          refine lv_iload_n hx hb dX2_endAct_32 rfl (lv_at hl 0 rfl) ?_
          refine hr_iald B hb hW tz29 rfl (by omega) (by omega) dX2_endAct_33 (fun z33 iz33 pz33 xz33 => ?_)
          refine lv_iadd hx hb dX2_endAct_34 (lv_topi (fun z34 hz34 => ?_))
          refine hr_putN B hF hb hU hW hS (ci := 2) (j := 4) (cd := 0) t0 rfl (isF (by decide +kernel)) rfl (ck_lo _) (ck_hi _) (Or.inl rfl) (hr_EO hX t0 (by decide)) (by decide) dX2_endAct_35 (fun H locs hW hS => ?_)
          refine lv_aload_n hx hb dX2_endAct_38 rfl (lv_at hl 2 rfl) ?_
          refine lv_aload_n hx hb dX2_endAct_39 rfl (lv_at hl 3 rfl) ?_
          refine lv_iload_n hx hb dX2_endAct_40 rfl (lv_at hl 0 rfl) ?_
          refine cm_callV (kc := kc_29) B rfl hb hl (hM.1 _ _ 0 [29] (isM (by decide +kernel)) 29 (by decide)) (hH 29 (by decide)) (b := a0) (As := [.ref a1, .int k]) ⟨hr_aR t0, hr_aR t1, hr_aI (by omega) (by omega), True.intro⟩ hp hW hS rfl (by decide) (by decide) (Nat.le_of_ble_eq_true rfl) dX2_endAct_41 (fun cs hcs r pvv41 H locs hca hW hS => ?_)
          obtain rfl := List.mem_singleton.mp hcs
          obtain ⟨hr, hq, hc⟩ := hca
          obtain rfl := hr_rv0 hr
          have hW := hr_pvE (hr_sameA hc rfl (by decide +kernel)) hW
          refine lv_aload_n hx hb dX2_endAct_44 rfl (lv_at hl 2 rfl) ?_
          refine lv_aload_n hx hb dX2_endAct_45 rfl (lv_at hl 3 rfl) ?_
          refine lv_iload_n hx hb dX2_endAct_46 rfl (lv_at hl 0 rfl) ?_
          refine cm_callV (kc := kc_30) B rfl hb hl (hM.1 _ _ 0 [30] (isM (by decide +kernel)) 30 (by decide)) (hH 30 (by decide)) (b := a0) (As := [.ref a1, .int k]) ⟨hr_aR t0, hr_aR t1, hr_aI (by omega) (by omega), True.intro⟩ hp hW hS rfl (by decide) (by decide) (Nat.le_of_ble_eq_true rfl) dX2_endAct_47 (fun cs hcs r pvv47 H locs hca hW hS => ?_)
          obtain rfl := List.mem_singleton.mp hcs
          obtain ⟨hr, hq, hc⟩ := hca
          obtain rfl := hr_rv0 hr
          have hW := hr_pvE (hr_sameA hc rfl (by decide +kernel)) hW
          refine hr_inc hx hb dX2_endAct_50 hl (kq := 0) (lv' := fun v => [(3, .int v), (2, .int on), (0, .ref a0), (1, .ref a1)]) rfl (by decide) (by decide) (by omega) (by omega) (fun _ => rfl) (fun z50 ls hz50 hl => ?_)
          refine lv_goto (tgt := 7) hx hb dX2_endAct_53 (by decide) ?_
          exact ih7 z50 on _ _ _ (by omega) (by omega) (by omega) hl hW hS
  refine lv_aload_n hx hb dX2_endAct_0 rfl (lv_at hl 0 rfl) ?_
  refine cm_callV (kc := kc_33) B rfl hb hl (hM.1 _ _ 0 [33] (isM (by decide +kernel)) 33 (by decide)) (hH 33 (by decide)) (b := a0) (As := []) ⟨hr_aR t0, True.intro⟩ hp hW hS rfl (by decide) (by decide) (Nat.le_of_ble_eq_true rfl) dX2_endAct_1 (fun cs hcs r pvv1 H locs hca hW hS => ?_)
  obtain rfl := List.mem_singleton.mp hcs
  obtain ⟨hr, hq, hc⟩ := hca
  obtain ⟨z1, rfl, lz1, uz1⟩ := hr_rvI hr
  have hW := hr_pvE (hr_sameA hc rfl (by decide +kernel)) hW
  refine lv_istore_n hx hb dX2_endAct_4 rfl hl (lv' := [(2, .int z1), (0, .ref a0), (1, .ref a1)]) (by decide) rfl (fun ls hl => ?_)
  refine hr_ic hx hb dX2_endAct_5 (by decide) (fun z5 hz5 => ?_)
  refine lv_istore_n hx hb dX2_endAct_6 rfl hl (lv' := [(3, .int z5), (2, .int z1), (0, .ref a0), (1, .ref a1)]) (by decide) rfl (fun ls hl => ?_)
  exact l7 9 z5 z1 _ _ _ (by omega) (by omega) (by omega) hl hW hS
end H24b
end
section
/-! BY HAND, 7: a scene's parts are set one by one: bitOf, sets, readScene. (bt and the rows b_ began as rows of kit/laws/BITS.) -/
def bt (x : Int32) (i : Nat) : Bool := x.toBitVec.getLsbD i
theorem b_ext {x y : Int32} (h : ∀ i, i < 32 → bt x i = bt y i) : x = y := Int32.toBitVec_inj.mp (BitVec.eq_of_getLsbD_eq (fun i hi => h i hi))
theorem b_or (x y : Int32) (i : Nat) : bt (x ||| y) i = (bt x i || bt y i) := by unfold bt; rw [Int32.toBitVec_or, BitVec.getLsbD_or]
theorem b_and (x y : Int32) (i : Nat) : bt (x &&& y) i = (bt x i && bt y i) := by unfold bt; rw [Int32.toBitVec_and, BitVec.getLsbD_and]
theorem s_l : ∀ n, n < 32 → ((nI n &&& 31).toBitVec.smod 32).toNat = n := by decide +kernel
theorem b_shl (n : Nat) (hn : n < 32) (x : Int32) {i : Nat} (hi : i < 32) : bt (x <<< (nI n &&& 31)) i = (decide (n ≤ i) && bt x (i - n)) := by
  unfold bt
  rw [Int32.toBitVec_shiftLeft]
  show (x.toBitVec <<< ((nI n &&& 31).toBitVec.smod 32).toNat).getLsbD i = _
  rw [s_l n hn, BitVec.getLsbD_shiftLeft]
  rcases Nat.lt_or_ge i n with h | h
  · simp [h, Nat.not_le.mpr h]
  · simp [hi, h, Nat.not_lt.mpr h]
theorem b_sshr (n : Nat) (hn : n < 32) (x : Int32) {i : Nat} (hi : i < 32) : bt (x >>> (nI n &&& 31)) i = if n + i < 32 then bt x (n + i) else bt x 31 := by
  unfold bt
  rw [Int32.toBitVec_shiftRight]
  show (x.toBitVec.sshiftRight ((nI n &&& 31).toBitVec.smod 32).toNat).getLsbD i = _
  rw [s_l n hn, BitVec.getLsbD_sshiftRight, BitVec.msb_eq_getLsbD_last]
  simp [hi]
theorem b_1 : ∀ i, i < 32 → bt 1 i = decide (i = 0) := by decide +kernel
theorem b_get {v k : Int32} (h0 : 0 ≤ k.toInt) (h5 : k.toInt ≤ 5) (h : ((v >>> (k &&& 31)) &&& 1).toInt ≠ 1) : bt v k.toInt.toNat = false := by
  obtain ⟨j, hj, rfl⟩ := ck_nn h0
  rw [nI_toInt hj] at h5 ⊢
  have e : ((j : Int)).toNat = j := by omega
  rw [e]
  cases hb : bt v j with
  | false => rfl
  | true =>
    exfalso
    apply h
    have : (v >>> (nI j &&& 31)) &&& 1 = 1 := b_ext (fun i hi => by
      rw [b_and, b_sshr j (by omega) v hi, b_1 i hi]
      by_cases e0 : i = 0
      · subst e0
        rw [if_pos (by omega), Nat.add_zero, hb]
        rfl
      · simp [e0])
    rw [this]
    rfl
def b_m (v : Int32) : Nat := (if bt v 0 then 0 else 1) + (if bt v 1 then 0 else 1) + (if bt v 2 then 0 else 1) + (if bt v 3 then 0 else 1) + (if bt v 4 then 0 else 1) + (if bt v 5 then 0 else 1)
theorem b_m6 (v : Int32) : b_m v ≤ 6 := by
  unfold b_m
  repeat' split
  all_goals omega
theorem b_fall {v k : Int32} (h0 : 0 ≤ k.toInt) (h5 : k.toInt ≤ 5) (h : bt v k.toInt.toNat = false) : b_m (v ||| ((1 : Int32) <<< (k &&& 31))) < b_m v := by
  obtain ⟨j, hj, rfl⟩ := ck_nn h0
  rw [nI_toInt hj] at h5 h
  have e : ((j : Int)).toNat = j := by omega
  rw [e] at h
  have key : ∀ i, i < 32 → bt (v ||| ((1 : Int32) <<< (nI j &&& 31))) i = (bt v i || decide (i = j)) := fun i hi => by
    rw [b_or, b_shl j (by omega) _ hi, b_1 _ (by omega)]
    by_cases e1 : i = j
    · subst e1; simp
    · by_cases e2 : j ≤ i
      · have : ¬ i - j = 0 := by omega
        simp [e1, e2, this]
      · simp [e1, e2]
  unfold b_m
  rw [key 0 (by omega), key 1 (by omega), key 2 (by omega), key 3 (by omega), key 4 (by omega), key 5 (by omega)]
  have hj5 : j ≤ 5 := by omega
  match j, hj5, h with
  | 0, _, h => simp [h]
  | 1, _, h => simp [h]
  | 2, _, h => simp [h]
  | 3, _, h => simp [h]
  | 4, _, h => simp [h]
  | 5, _, h => simp [h]
section H25
variable {l : Launch} {D : va_G} {cys : Nat → ClassId} {ty : Nat → Option Nat} {Ex : va_W → Prop} {pvv : Nat → Int32}
theorem dX12_bitOf_0 : decode cX12_bitOf 0 = .ok (.iload_n 0, 1) := by decide +kernel
theorem dX12_bitOf_1 : decode cX12_bitOf 1 = .ok (.iload_n 1, 1) := by decide +kernel
theorem dX12_bitOf_2 : decode cX12_bitOf 2 = .ok (.ishr, 1) := by decide +kernel
theorem dX12_bitOf_3 : decode cX12_bitOf 3 = .ok (.iconst 1, 1) := by decide +kernel
theorem dX12_bitOf_4 : decode cX12_bitOf 4 = .ok (.iand, 1) := by decide +kernel
theorem dX12_bitOf_5 : decode cX12_bitOf 5 = .ok (.iconst 1, 1) := by decide +kernel
theorem dX12_bitOf_6 : decode cX12_bitOf 6 = .ok (.if_icmp .ne 7, 3) := by decide +kernel
theorem dX12_bitOf_9 : decode cX12_bitOf 9 = .ok (.iconst 1, 1) := by decide +kernel
theorem dX12_bitOf_10 : decode cX12_bitOf 10 = .ok (.goto 4, 3) := by decide +kernel
theorem dX12_bitOf_13 : decode cX12_bitOf 13 = .ok (.iconst 0, 1) := by decide +kernel
theorem dX12_bitOf_14 : decode cX12_bitOf 14 = .ok (.ireturn, 1) := by decide +kernel
set_option maxRecDepth 100000 in
theorem hs_bitOf (x0 x1 : Int32) : hr_Met l D cys ty ck_tags ck_pvs0 Ex (ck_tab 188) [.int x0, .int x1] pvv (fun r pvv' E' => pvv' = pvv ∧ E' = Ex ∧ ∃ z : Int32, r = some (.int z) ∧ ((z.toInt = 0 ∧ ((x0 >>> (x1 &&& 31)) &&& 1).toInt ≠ 1) ∨ (z.toInt = 1 ∧ ((x0 >>> (x1 &&& 31)) &&& 1).toInt = 1))) := by
  refine hr_enter (by decide +kernel) (by decide +kernel) (by decide +kernel) ⟨hr_aF, hr_aF, True.intro⟩ ?_
  intro p e s m below meth c ls B hl hW
  have hx := B.1
  have hb : c.code = cX12_bitOf := B.2.1
  have hI := pv_inj
  have hS : va_S (ck_own ty) s.heap s.heap [] := va_S.rf
  have hl : lv_has ls 2 [(0, .int x0), (1, .int x1)] := hl
  refine lv_iload_n hx hb dX12_bitOf_0 rfl (lv_at hl 0 rfl) ?_
  refine lv_iload_n hx hb dX12_bitOf_1 rfl (lv_at hl 1 rfl) ?_
  refine lv_ishr hx hb dX12_bitOf_2 (lv_topi (fun z2 hz2 => ?_))
  refine hr_ic hx hb dX12_bitOf_3 (by decide) (fun z3 hz3 => ?_)
  refine lv_iand hx hb dX12_bitOf_4 (lv_topi (fun z4 hz4 => ?_))
  refine hr_ic hx hb dX12_bitOf_5 (by decide) (fun z5 hz5 => ?_)
  refine hr_ne (tgt := 13) hx hb dX12_bitOf_6 (by decide) (fun h6 => ?_) (fun h6 => ?_)
  · refine hr_ic hx hb dX12_bitOf_13 (by decide) (fun z13 hz13 => ?_)
    have e4 : z4 = (x0 >>> (x1 &&& 31)) &&& 1 := by rw [hz4, hz2]; congr 1; exact Int32.toInt_inj.mp (by rw [hz3]; rfl)
    have e4 := congrArg Int32.toInt e4
    exact hr_zret B hb rfl ⟨by omega, by omega⟩ ⟨rfl, rfl, z13, rfl, by omega⟩ hW hS dX12_bitOf_14
  · refine hr_ic hx hb dX12_bitOf_9 (by decide) (fun z9 hz9 => ?_)
    refine lv_goto (tgt := 14) hx hb dX12_bitOf_10 (by decide) ?_
    have e4 : z4 = (x0 >>> (x1 &&& 31)) &&& 1 := by rw [hz4, hz2]; congr 1; exact Int32.toInt_inj.mp (by rw [hz3]; rfl)
    have e4 := congrArg Int32.toInt e4
    exact hr_zret B hb rfl ⟨by omega, by omega⟩ ⟨rfl, rfl, z9, rfl, by omega⟩ hW hS dX12_bitOf_14
theorem dX12_sets_0 : decode cX12_sets 0 = .ok (.aload_n 0, 1) := by decide +kernel
theorem dX12_sets_1 : decode cX12_sets 1 = .ok (.getfield 37, 3) := by decide +kernel
theorem dX12_sets_4 : decode cX12_sets 4 = .ok (.iload_n 1, 1) := by decide +kernel
theorem dX12_sets_5 : decode cX12_sets 5 = .ok (.iaload, 1) := by decide +kernel
theorem dX12_sets_6 : decode cX12_sets 6 = .ok (.aload_n 0, 1) := by decide +kernel
theorem dX12_sets_7 : decode cX12_sets 7 = .ok (.getfield 202, 3) := by decide +kernel
theorem dX12_sets_10 : decode cX12_sets 10 = .ok (.invokestatic 217, 3) := by decide +kernel
theorem dX12_sets_13 : decode cX12_sets 13 = .ok (.ifCond .eq 9, 3) := by decide +kernel
theorem dX12_sets_16 : decode cX12_sets 16 = .ok (.aload_n 0, 1) := by decide +kernel
theorem dX12_sets_17 : decode cX12_sets 17 = .ok (.iconst 3, 1) := by decide +kernel
theorem dX12_sets_18 : decode cX12_sets 18 = .ok (.invokevirtual 192, 3) := by decide +kernel
theorem dX12_sets_21 : decode cX12_sets 21 = .ok (.ireturn, 1) := by decide +kernel
theorem dX12_sets_22 : decode cX12_sets 22 = .ok (.aload_n 0, 1) := by decide +kernel
theorem dX12_sets_23 : decode cX12_sets 23 = .ok (.getfield 37, 3) := by decide +kernel
theorem dX12_sets_26 : decode cX12_sets 26 = .ok (.iload_n 1, 1) := by decide +kernel
theorem dX12_sets_27 : decode cX12_sets 27 = .ok (.dup2, 1) := by decide +kernel
theorem dX12_sets_28 : decode cX12_sets 28 = .ok (.iaload, 1) := by decide +kernel
theorem dX12_sets_29 : decode cX12_sets 29 = .ok (.iconst 1, 1) := by decide +kernel
theorem dX12_sets_30 : decode cX12_sets 30 = .ok (.aload_n 0, 1) := by decide +kernel
theorem dX12_sets_31 : decode cX12_sets 31 = .ok (.getfield 202, 3) := by decide +kernel
theorem dX12_sets_34 : decode cX12_sets 34 = .ok (.ishl, 1) := by decide +kernel
theorem dX12_sets_35 : decode cX12_sets 35 = .ok (.ior, 1) := by decide +kernel
theorem dX12_sets_36 : decode cX12_sets 36 = .ok (.iastore, 1) := by decide +kernel
theorem dX12_sets_37 : decode cX12_sets 37 = .ok (.aload_n 0, 1) := by decide +kernel
theorem dX12_sets_38 : decode cX12_sets 38 = .ok (.invokevirtual 195, 3) := by decide +kernel
theorem dX12_sets_41 : decode cX12_sets 41 = .ok (.iconst 1, 1) := by decide +kernel
theorem dX12_sets_42 : decode cX12_sets 42 = .ok (.ireturn, 1) := by decide +kernel
def pqH (t : Nat) : List (Nat × Nat) := if t = 35 then [(0, 139)] else []
theorem pqH_A : ∀ t j, ck_pr (pqH t) j → ck_pr (ck_protA t) j := by
  intro t j h
  by_cases e : t = 35
  · subst e; exact h
  · obtain ⟨q, hq, -⟩ := h
    rw [pqH, if_neg e] at hq
    cases hq
/-- what a call of go leaves: all but three followed places, the place no less, more behind a sign -/
def goes (f g : Nat → Int32) : Prop := (∀ j, j < 25 → j ∉ [13, 14, 24] → g j = f j) ∧ 0 ≤ (g 13).toInt - (f 13).toInt ∧ ((g 14).toInt = 3 → 1 ≤ (g 13).toInt - (f 13).toInt)
set_option maxRecDepth 100000 in
set_option maxHeartbeats 4000000 in
theorem hs_sets (hF : ck_LKf ck_LK) (hM : ck_LKm ck_tags ck_LK ck_tab) (hU : ck_uq ty ck_pvs0) (hun : ck_un ty) (hX : ck_ExP ty ck_prot0 Ex) (hHA : ∀ Ex', ck_ExP ty ck_protA Ex' → ∀ j, j < 258 → ck_Holds l D cys ty ck_tags ck_pvs0 Ex' (ck_tab j)) {C : Nat → Nat → Int32} {a0 : Nat} {x1 : Int32} (t0 : ty a0 = some 12) (l1 : 5 ≤ x1.toInt) (u1 : x1.toInt ≤ 139) (hp : ck_pvo ty (ck_XE pvv) pPM pvv) (g1 : 0 ≤ (pvv 24).toInt) (g2 : (pvv 24).toInt ≤ 5) : hr_Met l D cys ty ck_tags ck_pvs0 (fun ws => Ex ws ∧ tk ty pqH C ws) (ck_tab 291) [.ref a0, .int x1] pvv (fun r pvv' E' => ck_pvo ty (ck_XE pvv') pPM pvv' ∧ ∃ z : Int32, r = some (.int z) ∧ ((z.toInt = 0 ∧ E' = (fun ws => Ex ws ∧ tk ty pqH C ws) ∧ ∀ j, j < 25 → pvv' j = pvv j) ∨ (z.toInt = 1 ∧ goes pvv pvv' ∧ ∃ C' : Nat → Nat → Int32, E' = (fun ws => Ex ws ∧ tk ty pqH C' ws) ∧ b_m (C' 35 x1.toInt.toNat) < b_m (C 35 x1.toInt.toNat)))) := by
  have hX2 : ∀ C, ck_ExP ty ck_protA (fun ws => Ex ws ∧ tk ty pqH C ws) := fun C => ExP_and (ExP_mono pr0A pr0Al hX) (tk_ExP pqH_A)
  refine hr_enter (by decide +kernel) (by decide +kernel) (by decide +kernel) ⟨hr_aR t0, hr_aI l1 u1, True.intro⟩ ?_
  intro p e s m below meth c ls B hl hW
  have hx := B.1
  have hb : c.code = cX12_sets := B.2.1
  have hI := pv_inj
  have hS : va_S (ck_own ty) s.heap s.heap [] := va_S.rf
  have hl : lv_has ls 2 [(0, .ref a0), (1, .int x1)] := hl
  refine lv_aload_n hx hb dX12_sets_0 rfl (lv_at hl 0 rfl) ?_
  refine hr_getR B hF hb hW (ci := 12) (j := 7) (cd := 3) t0 rfl (isF (by decide +kernel)) rfl dX12_sets_1 (fun az1 tz1 xz1 => ?_)
  refine lv_iload_n hx hb dX12_sets_4 rfl (lv_at hl 1 rfl) ?_
  refine hr_iald B hb hW tz1 rfl (by omega) (by omega) dX12_sets_5 (fun z5 iz5 pz5 xz5 => ?_)
  have xz5 := tk_xa xz5 (fun _ h => h.2) (pq := pqH) (C := C) tz1 ⟨(0, 139), by decide, by dsimp only; omega, by dsimp only; omega⟩; have kz5 := congrArg Int32.toInt xz5
  refine lv_aload_n hx hb dX12_sets_6 rfl (lv_at hl 0 rfl) ?_
  refine hr_getI B hF hb hW (ci := 12) (j := 18) (cd := 0) t0 rfl (isF (by decide +kernel)) rfl dX12_sets_7 (fun z7 lz7 uz7 pz7 xz7 => ?_)
  have pz7 := congrArg Int32.toInt (pz7 24 rfl)
  refine hr_callS (kc := ck_tab 188) B rfl hb hl (hM.1 _ _ 1 [188] (isM (by decide +kernel)) 188 (by decide)) (hs_bitOf z5 z7) ⟨hr_aF, hr_aF, True.intro⟩ hW hS rfl (by decide) (by decide) (Nat.le_of_ble_eq_true rfl) dX12_sets_10 (fun r pvv' E' H locs hpost hW hS => ?_)
  obtain ⟨rfl, rfl, z10, rfl, b10⟩ := hpost
  refine hr_eq0 (tgt := 22) hx hb dX12_sets_13 (by decide) (fun h13 => ?_) (fun h13 => ?_)
  · refine lv_aload_n hx hb dX12_sets_22 rfl (lv_at hl 0 rfl) ?_
    refine hr_getR B hF hb hW (ci := 12) (j := 7) (cd := 3) t0 rfl (isF (by decide +kernel)) rfl dX12_sets_23 (fun az23 tz23 xz23 => ?_)
    refine lv_iload_n hx hb dX12_sets_26 rfl (lv_at hl 1 rfl) ?_
    refine lv_dup2_11 hx hb dX12_sets_27 rfl rfl ?_
    refine hr_iald B hb hW tz23 rfl (by omega) (by omega) dX12_sets_28 (fun z28 iz28 pz28 xz28 => ?_)
    have xz28 := tk_xa xz28 (fun _ h => h.2) (pq := pqH) (C := C) tz23 ⟨(0, 139), by decide, by dsimp only; omega, by dsimp only; omega⟩; have kz28 := congrArg Int32.toInt xz28
    refine hr_ic hx hb dX12_sets_29 (by decide) (fun z29 hz29 => ?_)
    refine lv_aload_n hx hb dX12_sets_30 rfl (lv_at hl 0 rfl) ?_
    refine hr_getI B hF hb hW (ci := 12) (j := 18) (cd := 0) t0 rfl (isF (by decide +kernel)) rfl dX12_sets_31 (fun z31 lz31 uz31 pz31 xz31 => ?_)
    have pz31 := congrArg Int32.toInt (pz31 24 rfl)
    refine lv_ishl hx hb dX12_sets_34 (lv_topi (fun z34 hz34 => ?_))
    refine lv_ior hx hb dX12_sets_35 (lv_topi (fun z35 hz35 => ?_))
    refine hr_iastN (Ex' := fun ws => Ex ws ∧ tk ty pqH (tk_upd C 35 x1.toInt.toNat z35) ws) B hb hU hW hS tz23 rfl (by omega) (by omega) (hr_ins (a := 5) (b := 139) (lo := -2147483648) (hi := 2147483647) (by omega) (by omega) (by decide +kernel) (ck_lo _) (ck_hi _)) (fun ws q f hD hE hq => ⟨hr_EA (i := x1) hX tz23 (u := 5) (v := 139) (by omega) (by omega) (by decide) ws q f hD hE.1 hq, tk_EA tz23 (fun a h => hun 35 (by decide) _ _ tz23 h) ws q f hD hE.2 hq⟩) (u := 5) (v := 139) (by omega) (by omega) (by decide) dX12_sets_36 (fun H locs hW hS => ?_)
    refine lv_aload_n hx hb dX12_sets_37 rfl (lv_at hl 0 rfl) ?_
    refine cm_callV (kc := kc_195) B rfl hb hl (hM.1 _ _ 0 [195] (isM (by decide +kernel)) 195 (by decide)) (hHA _ (hX2 _) 195 (by decide)) (b := a0) (As := []) ⟨hr_aR t0, True.intro⟩ hp hW hS rfl (by decide) (by decide) (Nat.le_of_ble_eq_true rfl) dX12_sets_38 (fun cs hcs r pvv38 H locs hca hW hS => ?_)
    rcases List.mem_cons.mp hcs with rfl | hcs
    · obtain ⟨hr, hq, hc⟩ := hca
      obtain rfl := hr_rv0 hr
      have hp := hr_std hp hc (by decide +kernel)
      have e38r13 := hr_pv hc 13 (lo := 0) (hi := 940) rfl
      have e38d13_2026 := hr_pd hc 13 13 (lo := 0) (hi := 940) (a := 0) (b := 940) rfl (by decide)
      have e38r14 := hr_pv hc 14 (lo := 0) (hi := 0) rfl
      refine hr_ic hx hb dX12_sets_41 (by decide) (fun z41 hz41 => ?_)
      refine hr_zret B hb rfl ⟨by omega, by omega⟩ ⟨hp, z41, rfl, Or.inr ⟨by omega, ⟨hr_sameX hc (by decide +kernel), by omega, fun h9 => by omega⟩, _, rfl, ?_⟩⟩ hW hS dX12_sets_42
      rw [tk_us]
      have e28 : z28 = C 35 x1.toInt.toNat := xz28
      have e5 : z5 = C 35 x1.toInt.toNat := xz5
      have e29 : z29 = 1 := Int32.toInt_inj.mp (by rw [hz29]; rfl)
      have e35 : z35 = C 35 x1.toInt.toNat ||| ((1 : Int32) <<< (z31 &&& 31)) := by rw [hz35, hz34, e28, e29]
      rw [e35]
      refine b_fall (by omega) (by omega) (b_get (by omega) (by omega) ?_)
      have e7 : z31 = z7 := Int32.toInt_inj.mp (by omega)
      rw [e7, ← e5]
      rcases b10 with ⟨q1, q2⟩ | ⟨q1, q2⟩
      · exact q2
      · omega
    rcases List.mem_cons.mp hcs with rfl | hcs
    · obtain ⟨hr, hq, hc⟩ := hca
      obtain rfl := hr_rv0 hr
      have hp := hr_std hp hc (by decide +kernel)
      have e38r13 := hr_pv hc 13 (lo := 0) (hi := 940) rfl
      have e38d13_2026 := hr_pd hc 13 13 (lo := 0) (hi := 940) (a := 0) (b := 940) rfl (by decide)
      have e38r14 := hr_pv hc 14 (lo := 4) (hi := 4) rfl
      refine hr_ic hx hb dX12_sets_41 (by decide) (fun z41 hz41 => ?_)
      refine hr_zret B hb rfl ⟨by omega, by omega⟩ ⟨hp, z41, rfl, Or.inr ⟨by omega, ⟨hr_sameX hc (by decide +kernel), by omega, fun h9 => by omega⟩, _, rfl, ?_⟩⟩ hW hS dX12_sets_42
      rw [tk_us]
      have e28 : z28 = C 35 x1.toInt.toNat := xz28
      have e5 : z5 = C 35 x1.toInt.toNat := xz5
      have e29 : z29 = 1 := Int32.toInt_inj.mp (by rw [hz29]; rfl)
      have e35 : z35 = C 35 x1.toInt.toNat ||| ((1 : Int32) <<< (z31 &&& 31)) := by rw [hz35, hz34, e28, e29]
      rw [e35]
      refine b_fall (by omega) (by omega) (b_get (by omega) (by omega) ?_)
      have e7 : z31 = z7 := Int32.toInt_inj.mp (by omega)
      rw [e7, ← e5]
      rcases b10 with ⟨q1, q2⟩ | ⟨q1, q2⟩
      · exact q2
      · omega
    rcases List.mem_cons.mp hcs with rfl | hcs
    · obtain ⟨hr, hq, hc⟩ := hca
      obtain rfl := hr_rv0 hr
      have hp := hr_std hp hc (by decide +kernel)
      have e38r13 := hr_pv hc 13 (lo := 1) (hi := 940) rfl
      have e38d13_2026 := hr_pd hc 13 13 (lo := 1) (hi := 940) (a := 1) (b := 940) rfl (by decide)
      have e38r14 := hr_pv hc 14 (lo := 3) (hi := 3) rfl
      refine hr_ic hx hb dX12_sets_41 (by decide) (fun z41 hz41 => ?_)
      refine hr_zret B hb rfl ⟨by omega, by omega⟩ ⟨hp, z41, rfl, Or.inr ⟨by omega, ⟨hr_sameX hc (by decide +kernel), by omega, fun h9 => by omega⟩, _, rfl, ?_⟩⟩ hW hS dX12_sets_42
      rw [tk_us]
      have e28 : z28 = C 35 x1.toInt.toNat := xz28
      have e5 : z5 = C 35 x1.toInt.toNat := xz5
      have e29 : z29 = 1 := Int32.toInt_inj.mp (by rw [hz29]; rfl)
      have e35 : z35 = C 35 x1.toInt.toNat ||| ((1 : Int32) <<< (z31 &&& 31)) := by rw [hz35, hz34, e28, e29]
      rw [e35]
      refine b_fall (by omega) (by omega) (b_get (by omega) (by omega) ?_)
      have e7 : z31 = z7 := Int32.toInt_inj.mp (by omega)
      rw [e7, ← e5]
      rcases b10 with ⟨q1, q2⟩ | ⟨q1, q2⟩
      · exact q2
      · omega
    obtain rfl := List.mem_singleton.mp hcs
    obtain ⟨hr, hq, hc⟩ := hca
    obtain rfl := hr_rv0 hr
    have hp := hr_std hp hc (by decide +kernel)
    have e38r13 := hr_pv hc 13 (lo := 0) (hi := 940) rfl
    have e38d13_2026 := hr_pd hc 13 13 (lo := 0) (hi := 940) (a := 0) (b := 940) rfl (by decide)
    have e38r14 := hr_pv hc 14 (lo := 1) (hi := 2) rfl
    refine hr_ic hx hb dX12_sets_41 (by decide) (fun z41 hz41 => ?_)
    refine hr_zret B hb rfl ⟨by omega, by omega⟩ ⟨hp, z41, rfl, Or.inr ⟨by omega, ⟨hr_sameX hc (by decide +kernel), by omega, fun h9 => by omega⟩, _, rfl, ?_⟩⟩ hW hS dX12_sets_42
    rw [tk_us]
    have e28 : z28 = C 35 x1.toInt.toNat := xz28
    have e5 : z5 = C 35 x1.toInt.toNat := xz5
    have e29 : z29 = 1 := Int32.toInt_inj.mp (by rw [hz29]; rfl)
    have e35 : z35 = C 35 x1.toInt.toNat ||| ((1 : Int32) <<< (z31 &&& 31)) := by rw [hz35, hz34, e28, e29]
    rw [e35]
    refine b_fall (by omega) (by omega) (b_get (by omega) (by omega) ?_)
    have e7 : z31 = z7 := Int32.toInt_inj.mp (by omega)
    rw [e7, ← e5]
    rcases b10 with ⟨q1, q2⟩ | ⟨q1, q2⟩
    · exact q2
    · omega
  · refine lv_aload_n hx hb dX12_sets_16 rfl (lv_at hl 0 rfl) ?_
    refine hr_ic hx hb dX12_sets_17 (by decide) (fun z17 hz17 => ?_)
    refine cm_callV (kc := kc_191) B rfl hb hl (hM.1 _ _ 0 [191] (isM (by decide +kernel)) 191 (by decide)) (hHA _ (hX2 _) 191 (by decide)) (b := a0) (As := [.int z17]) ⟨hr_aR t0, hr_aI (by omega) (by omega), True.intro⟩ hp hW hS rfl (by decide) (by decide) (Nat.le_of_ble_eq_true rfl) dX12_sets_18 (fun cs hcs r pvv18 H locs hca hW hS => ?_)
    obtain rfl := List.mem_singleton.mp hcs
    obtain ⟨hr, hq, hc⟩ := hca
    obtain ⟨z18, rfl, lz18, uz18⟩ := hr_rvI hr
    have hW := hr_pvE (hr_sameA hc rfl (by decide +kernel)) hW
    exact hr_zret B hb rfl ⟨by omega, by omega⟩ ⟨hp, z18, rfl, Or.inl ⟨by omega, rfl, fun _ _ => rfl⟩⟩ hW hS dX12_sets_21
theorem goes_rf {f : Nat → Int32} (h : (f 14).toInt ≠ 3) : goes f f := ⟨fun _ _ _ => rfl, by omega, fun q => absurd q h⟩
theorem goes_tr {f g h : Nat → Int32} (a : 0 ≤ (g 13).toInt - (f 13).toInt) (a2 : ∀ j, j < 25 → j ∉ [13, 14, 24] → g j = f j) (b : goes g h) : goes f h := ⟨fun j hj hn => (b.1 j hj hn).trans (a2 j hj hn), by have := b.2.1; omega, fun q => by have := b.2.2 q; omega⟩
theorem goes_got {f g h : Nat → Int32} (a : goes f g) (b : ∀ j, j < 25 → j ∉ [24] → h j = g j) : goes f h := by
  obtain ⟨a1, a2, a3⟩ := a
  have e1 := b 13 (by decide) (by decide)
  have e2 := b 14 (by decide) (by decide)
  refine ⟨fun j hj hn => (b j hj (fun q => hn ?_)).trans (a1 j hj hn), ?_, ?_⟩
  · rw [List.mem_singleton.mp q]; decide
  · rw [e1]; exact a2
  · rw [e1, e2]; exact a3
theorem hr_trkH {H : Heap} (hW : ck_Wo D cys ty ck_tags ck_pvs0 Ex pvv H) (hun : ck_un ty) {a : Nat} (hta : ty a = some 35) : ∃ C : Nat → Nat → Int32, ck_Wo D cys ty ck_tags ck_pvs0 (fun ws => Ex ws ∧ tk ty pqH C ws) pvv H := by
  obtain ⟨ws, h1, h2, h3, h4, h5⟩ := hW
  obtain ⟨q, f, g1, -⟩ := ck_arrI h3 hta rfl (by decide)
  refine ⟨fun _ j => f j, ws, h1, h2, h3, h4, h5, ?_⟩
  intro a' t q' en ha' hq' j hj
  have et : t = 35 := by
    by_cases e : t = 35
    · exact e
    · obtain ⟨r, hr, -⟩ := hj
      rw [pqH, if_neg e] at hr
      cases hr
  subst et
  obtain rfl := hun 35 (by decide) _ _ hta ha'
  obtain ⟨-, rfl⟩ := ck_D1 h2 g1 hq'
  rfl
theorem dX12_readScene_0 : decode cX12_readScene 0 = .ok (.aload_n 0, 1) := by decide +kernel
theorem dX12_readScene_1 : decode cX12_readScene 1 = .ok (.getfield 37, 3) := by decide +kernel
theorem dX12_readScene_4 : decode cX12_readScene 4 = .ok (.iconst 3, 1) := by decide +kernel
theorem dX12_readScene_5 : decode cX12_readScene 5 = .ok (.iaload, 1) := by decide +kernel
theorem dX12_readScene_6 : decode cX12_readScene 6 = .ok (.ifCond .ne 9, 3) := by decide +kernel
theorem dX12_readScene_9 : decode cX12_readScene 9 = .ok (.aload_n 0, 1) := by decide +kernel
theorem dX12_readScene_10 : decode cX12_readScene 10 = .ok (.iconst 1, 1) := by decide +kernel
theorem dX12_readScene_11 : decode cX12_readScene 11 = .ok (.invokevirtual 192, 3) := by decide +kernel
theorem dX12_readScene_14 : decode cX12_readScene 14 = .ok (.ireturn, 1) := by decide +kernel
theorem dX12_readScene_15 : decode cX12_readScene 15 = .ok (.aload_n 0, 1) := by decide +kernel
theorem dX12_readScene_16 : decode cX12_readScene 16 = .ok (.getfield 37, 3) := by decide +kernel
theorem dX12_readScene_19 : decode cX12_readScene 19 = .ok (.iconst 4, 1) := by decide +kernel
theorem dX12_readScene_20 : decode cX12_readScene 20 = .ok (.iaload, 1) := by decide +kernel
theorem dX12_readScene_21 : decode cX12_readScene 21 = .ok (.istore_n 1, 1) := by decide +kernel
theorem dX12_readScene_22 : decode cX12_readScene 22 = .ok (.iload_n 1, 1) := by decide +kernel
theorem dX12_readScene_23 : decode cX12_readScene 23 = .ok (.bipush 12, 2) := by decide +kernel
theorem dX12_readScene_25 : decode cX12_readScene 25 = .ok (.if_icmp .ne 9, 3) := by decide +kernel
theorem dX12_readScene_28 : decode cX12_readScene 28 = .ok (.aload_n 0, 1) := by decide +kernel
theorem dX12_readScene_29 : decode cX12_readScene 29 = .ok (.iconst 4, 1) := by decide +kernel
theorem dX12_readScene_30 : decode cX12_readScene 30 = .ok (.invokevirtual 192, 3) := by decide +kernel
theorem dX12_readScene_33 : decode cX12_readScene 33 = .ok (.ireturn, 1) := by decide +kernel
theorem dX12_readScene_34 : decode cX12_readScene 34 = .ok (.aload_n 0, 1) := by decide +kernel
theorem dX12_readScene_35 : decode cX12_readScene 35 = .ok (.invokevirtual 195, 3) := by decide +kernel
theorem dX12_readScene_38 : decode cX12_readScene 38 = .ok (.aload_n 0, 1) := by decide +kernel
theorem dX12_readScene_39 : decode cX12_readScene 39 = .ok (.getfield 37, 3) := by decide +kernel
theorem dX12_readScene_42 : decode cX12_readScene 42 = .ok (.bipush 104, 2) := by decide +kernel
theorem dX12_readScene_44 : decode cX12_readScene 44 = .ok (.iload_n 1, 1) := by decide +kernel
theorem dX12_readScene_45 : decode cX12_readScene 45 = .ok (.iadd, 1) := by decide +kernel
theorem dX12_readScene_46 : decode cX12_readScene 46 = .ok (.aload_n 0, 1) := by decide +kernel
theorem dX12_readScene_47 : decode cX12_readScene 47 = .ok (.getfield 37, 3) := by decide +kernel
theorem dX12_readScene_50 : decode cX12_readScene 50 = .ok (.iconst 3, 1) := by decide +kernel
theorem dX12_readScene_51 : decode cX12_readScene 51 = .ok (.iaload, 1) := by decide +kernel
theorem dX12_readScene_52 : decode cX12_readScene 52 = .ok (.iconst 1, 1) := by decide +kernel
theorem dX12_readScene_53 : decode cX12_readScene 53 = .ok (.isub, 1) := by decide +kernel
theorem dX12_readScene_54 : decode cX12_readScene 54 = .ok (.iastore, 1) := by decide +kernel
theorem dX12_readScene_55 : decode cX12_readScene 55 = .ok (.aload_n 0, 1) := by decide +kernel
theorem dX12_readScene_56 : decode cX12_readScene 56 = .ok (.getfield 37, 3) := by decide +kernel
theorem dX12_readScene_59 : decode cX12_readScene 59 = .ok (.bipush 116, 2) := by decide +kernel
theorem dX12_readScene_61 : decode cX12_readScene 61 = .ok (.iload_n 1, 1) := by decide +kernel
theorem dX12_readScene_62 : decode cX12_readScene 62 = .ok (.iadd, 1) := by decide +kernel
theorem dX12_readScene_63 : decode cX12_readScene 63 = .ok (.iconst 0, 1) := by decide +kernel
theorem dX12_readScene_64 : decode cX12_readScene 64 = .ok (.iastore, 1) := by decide +kernel
theorem dX12_readScene_65 : decode cX12_readScene 65 = .ok (.aload_n 0, 1) := by decide +kernel
theorem dX12_readScene_66 : decode cX12_readScene 66 = .ok (.getfield 37, 3) := by decide +kernel
theorem dX12_readScene_69 : decode cX12_readScene 69 = .ok (.bipush 116, 2) := by decide +kernel
theorem dX12_readScene_71 : decode cX12_readScene 71 = .ok (.iload_n 1, 1) := by decide +kernel
theorem dX12_readScene_72 : decode cX12_readScene 72 = .ok (.iadd, 1) := by decide +kernel
theorem dX12_readScene_73 : decode cX12_readScene 73 = .ok (.iaload, 1) := by decide +kernel
theorem dX12_readScene_74 : decode cX12_readScene 74 = .ok (.ifCond .eq 12, 3) := by decide +kernel
theorem dX12_readScene_77 : decode cX12_readScene 77 = .ok (.aload_n 0, 1) := by decide +kernel
theorem dX12_readScene_78 : decode cX12_readScene 78 = .ok (.bipush 59, 2) := by decide +kernel
theorem dX12_readScene_80 : decode cX12_readScene 80 = .ok (.invokevirtual 189, 3) := by decide +kernel
theorem dX12_readScene_83 : decode cX12_readScene 83 = .ok (.ifCond .ne 31, 3) := by decide +kernel
theorem dX12_readScene_86 : decode cX12_readScene 86 = .ok (.aload_n 0, 1) := by decide +kernel
theorem dX12_readScene_87 : decode cX12_readScene 87 = .ok (.bipush 20, 2) := by decide +kernel
theorem dX12_readScene_89 : decode cX12_readScene 89 = .ok (.aload_n 0, 1) := by decide +kernel
theorem dX12_readScene_90 : decode cX12_readScene 90 = .ok (.getfield 37, 3) := by decide +kernel
theorem dX12_readScene_93 : decode cX12_readScene 93 = .ok (.iconst 0, 1) := by decide +kernel
theorem dX12_readScene_94 : decode cX12_readScene 94 = .ok (.iaload, 1) := by decide +kernel
theorem dX12_readScene_95 : decode cX12_readScene 95 = .ok (.invokevirtual 213, 3) := by decide +kernel
theorem dX12_readScene_98 : decode cX12_readScene 98 = .ok (.ifCond .eq 14, 3) := by decide +kernel
theorem dX12_readScene_101 : decode cX12_readScene 101 = .ok (.aload_n 0, 1) := by decide +kernel
theorem dX12_readScene_102 : decode cX12_readScene 102 = .ok (.bipush 116, 2) := by decide +kernel
theorem dX12_readScene_104 : decode cX12_readScene 104 = .ok (.iload_n 1, 1) := by decide +kernel
theorem dX12_readScene_105 : decode cX12_readScene 105 = .ok (.iadd, 1) := by decide +kernel
theorem dX12_readScene_106 : decode cX12_readScene 106 = .ok (.invokevirtual 233, 3) := by decide +kernel
theorem dX12_readScene_109 : decode cX12_readScene 109 = .ok (.ifCond .ne (-44), 3) := by decide +kernel
theorem dX12_readScene_112 : decode cX12_readScene 112 = .ok (.iconst 0, 1) := by decide +kernel
theorem dX12_readScene_113 : decode cX12_readScene 113 = .ok (.ireturn, 1) := by decide +kernel
theorem dX12_readScene_114 : decode cX12_readScene 114 = .ok (.aload_n 0, 1) := by decide +kernel
theorem dX12_readScene_115 : decode cX12_readScene 115 = .ok (.getfield 37, 3) := by decide +kernel
theorem dX12_readScene_118 : decode cX12_readScene 118 = .ok (.iconst 4, 1) := by decide +kernel
theorem dX12_readScene_119 : decode cX12_readScene 119 = .ok (.dup2, 1) := by decide +kernel
theorem dX12_readScene_120 : decode cX12_readScene 120 = .ok (.iaload, 1) := by decide +kernel
theorem dX12_readScene_121 : decode cX12_readScene 121 = .ok (.iconst 1, 1) := by decide +kernel
theorem dX12_readScene_122 : decode cX12_readScene 122 = .ok (.iadd, 1) := by decide +kernel
theorem dX12_readScene_123 : decode cX12_readScene 123 = .ok (.iastore, 1) := by decide +kernel
theorem dX12_readScene_124 : decode cX12_readScene 124 = .ok (.iconst 1, 1) := by decide +kernel
theorem dX12_readScene_125 : decode cX12_readScene 125 = .ok (.ireturn, 1) := by decide +kernel
set_option maxRecDepth 100000 in
set_option maxHeartbeats 4000000 in
theorem hk_12_readScene (hF : ck_LKf ck_LK) (hM : ck_LKm ck_tags ck_LK ck_tab) (hU : ck_uq ty ck_pvs0) (hun : ck_un ty) (hX : ck_ExP ty ck_prot0 Ex) (hHA : ∀ Ex', ck_ExP ty ck_protA Ex' → ∀ j, j < 258 → ck_Holds l D cys ty ck_tags ck_pvs0 Ex' (ck_tab j)) (hH : ∀ j, j < 293 → ck_Holds l D cys ty ck_tags ck_pvs0 Ex (ck_tab j)) : ck_Holds l D cys ty ck_tags ck_pvs0 Ex (ck_tab 293) := by
  refine cm_enter (by decide +kernel) (by decide +kernel) (by decide +kernel) ?_
  intro vs pvv0 p e s m below meth c ls ha hp B hl hW
  have hx := B.1
  have hb : c.code = cX12_readScene := B.2.1
  have hI := pv_inj
  have hS : va_S (ck_own ty) s.heap s.heap [] := va_S.rf
  obtain ⟨_, rfl, ⟨a0, rfl, t0⟩⟩ := cm_a1 ha
  have hl : lv_has ls 2 [(0, .ref a0)] := hl
  have hp0 := hp
  have hX2 : ∀ C, ck_ExP ty ck_protA (fun ws => Ex ws ∧ tk ty pqH C ws) := fun C => ExP_and (ExP_mono pr0A pr0Al hX) (tk_ExP pqH_A)
  have r13 := hr_pv hp0 13 (lo := 0) (hi := 940) rfl
  have r14 := hr_pv hp0 14 (lo := 0) (hi := 4) rfl
  have r23 := hr_pv hp0 23 (lo := 0) (hi := 12) rfl
  have l65 : ∀ (n65 : Nat) (k : Int32) (pvv : Nat → Int32) (C : Nat → Nat → Int32) (ls : Array Slot) (H : Heap) (locs : List Loc), ((b_m (C 35 (116 + k.toInt).toNat) : Nat) : Int) < n65 → (0 ≤ k.toInt) → (k.toInt ≤ 11) → (k.toInt = (pvv0 23).toInt) → (goes pvv0 pvv) → (ck_pvo ty (ck_XE pvv) pPM pvv) → lv_has ls 2 [(1, .int k), (0, .ref a0)] → ck_Wo D cys ty ck_tags ck_pvs0 (fun ws => Ex ws ∧ tk ty pqH C ws) pvv H → va_S (ck_own ty) s.heap H locs → W p l e (ck_rm (ck_tab 293)) s m [Value.ref a0].toArray below meth c H locs 0 0 (MQ below (ck_Qc D cys ty ck_tags ck_pvs0 Ex (ck_tab 293) [Value.ref a0] pvv0) [Value.ref a0].toArray s 0 0 (ck_own ty)) (F0 m 65 ls []) := by
    intro n65
    induction n65 with
    | zero => intro k pvv C ls H locs hm65 k1 k2 k3 ge hp hl hW hS; omega
    | succ n65 ih65 =>
      intro k pvv C ls H locs hm65 k1 k2 k3 ge hp hl hW hS
      refine lv_aload_n hx hb dX12_readScene_65 rfl (lv_at hl 1 rfl) ?_
      refine hr_getR B hF hb hW (ci := 12) (j := 7) (cd := 3) t0 rfl (isF (by decide +kernel)) rfl dX12_readScene_66 (fun az66 tz66 xz66 => ?_)
      refine hr_bp hx hb dX12_readScene_69 (by decide) (by decide) (fun z69 hz69 => ?_)
      refine lv_iload_n hx hb dX12_readScene_71 rfl (lv_at hl 0 rfl) ?_
      refine hr_add hx hb dX12_readScene_72 (by omega) (by omega) (fun z72 hz72 => ?_)
      refine hr_iald B hb hW tz66 rfl (by omega) (by omega) dX12_readScene_73 (fun z73 iz73 pz73 xz73 => ?_)
      have xz73 := tk_xa xz73 (fun _ h => h.2) (pq := pqH) (C := C) tz66 ⟨(0, 139), by decide, by dsimp only; omega, by dsimp only; omega⟩; have kz73 := congrArg Int32.toInt xz73
      refine hr_eq0 (tgt := 86) hx hb dX12_readScene_74 (by decide) (fun h74 => ?_) (fun h74 => ?_)
      · refine lv_aload_n hx hb dX12_readScene_86 rfl (lv_at hl 1 rfl) ?_
        refine hr_bp hx hb dX12_readScene_87 (by decide) (by decide) (fun z87 hz87 => ?_)
        refine lv_aload_n hx hb dX12_readScene_89 rfl (lv_at hl 1 rfl) ?_
        refine hr_getR B hF hb hW (ci := 12) (j := 7) (cd := 3) t0 rfl (isF (by decide +kernel)) rfl dX12_readScene_90 (fun az90 tz90 xz90 => ?_)
        refine hr_ic hx hb dX12_readScene_93 (by decide) (fun z93 hz93 => ?_)
        refine hr_iald B hb hW tz90 rfl (by omega) (by omega) dX12_readScene_94 (fun z94 iz94 pz94 xz94 => ?_)
        have iz94 := hr_inr iz94 (a := 0) (b := 0) (lo := 0) (hi := 6) (by omega) (by omega) (by decide +kernel)
        have pz94 := congrArg Int32.toInt (pz94 19 (by rw [show z93.toInt.toNat = 0 by omega]; rfl))
        have xz94 := tk_xa xz94 (fun _ h => h.2) (pq := pqH) (C := C) tz90 ⟨(0, 139), by decide, by dsimp only; omega, by dsimp only; omega⟩; have kz94 := congrArg Int32.toInt xz94
        refine cm_callV (kc := kc_210) B rfl hb hl (hM.1 _ _ 0 [210, 211] (isM (by decide +kernel)) 210 (by decide)) (hHA _ (hX2 _) 210 (by decide)) (b := a0) (As := [.int z87, .int z94]) ⟨hr_aR t0, hr_aI (by omega) (by omega), hr_aI (by omega) (by omega), True.intro⟩ hp hW hS rfl (by decide) (by decide) (Nat.le_of_ble_eq_true rfl) dX12_readScene_95 (fun cs hcs r pvv95 H locs hca hW hS => ?_)
        rcases List.mem_cons.mp hcs with rfl | hcs
        · obtain ⟨hr, hq, hc⟩ := hca
          obtain ⟨z95, rfl, lz95, uz95⟩ := hr_rvI hr
          have hp := hr_std hp hc (by decide +kernel)
          have e95w13 := congrArg Int32.toInt (hr_same1 hc (j := 13) (by decide +kernel))
          have e95w14 := congrArg Int32.toInt (hr_same1 hc (j := 14) (by decide +kernel))
          have e95w23 := congrArg Int32.toInt (hr_same1 hc (j := 23) (by decide +kernel))
          have ge := goes_got ge (hr_sameX (l := [24]) hc (by decide +kernel))
          refine hr_eq0 (tgt := 112) hx hb dX12_readScene_98 (by decide) (fun h98 => ?_) (fun h98 => ?_)
          · refine hr_ic hx hb dX12_readScene_112 (by decide) (fun z112 hz112 => ?_)
            have hW := hr_mono (fun _ h => h.1) hW
            refine cm_zret B hb rfl ⟨by omega, by omega⟩ ⟨_, List.mem_cons_self, hr_aI (ty := ty) (by omega) (by omega), (fun q h => nomatch h), ?_⟩ hW hS dX12_readScene_113
            have s13 := hr_pv hp 13 (lo := 0) (hi := 940) rfl
            have s14 := hr_pv hp 14 (lo := 0) (hi := 4) rfl
            have s23 := hr_pv hp 23 (lo := 0) (hi := 12) rfl
            obtain ⟨ge1, ge2, ge3⟩ := ge
            refine hr_mk (n := 25) [13, 14, 24, 23] hp0 (fun j h1 h2 => ge1 j h1 (fun q => h2 (by simp only [List.mem_cons, List.not_mem_nil, or_false] at q ⊢; omega))) (by decide +kernel) (fun j hj av hav => ?_)
            rcases List.mem_cons.mp hj with rfl | hj
            · have hav : some (.inl (0, 940, [(2026, 0, 940)]) : ck_AV) = some av := hav
              cases hav
              exact hr_vd (q := 13) (by omega) (by omega) (by omega) (by omega)
            rcases List.mem_cons.mp hj with rfl | hj
            · have hav : some (.inl (0, 4, []) : ck_AV) = some av := hav
              cases hav
              exact hr_aI (by omega) (by omega)
            rcases List.mem_cons.mp hj with rfl | hj
            · have hav : some (.inl (-2147483648, 2147483647, []) : ck_AV) = some av := hav
              cases hav
              exact hr_aF
            obtain rfl := List.mem_singleton.mp hj
            have hav : some (.inl (0, 12, []) : ck_AV) = some av := hav
            cases hav
            exact hr_aI (by omega) (by omega)
          · refine lv_aload_n hx hb dX12_readScene_101 rfl (lv_at hl 1 rfl) ?_
            refine hr_bp hx hb dX12_readScene_102 (by decide) (by decide) (fun z102 hz102 => ?_)
            refine lv_iload_n hx hb dX12_readScene_104 rfl (lv_at hl 0 rfl) ?_
            refine hr_add hx hb dX12_readScene_105 (by omega) (by omega) (fun z105 hz105 => ?_)
            refine hr_callV (kc := ck_tab 291) B rfl hb hl (hM.1 _ _ 0 [291] (isM (by decide +kernel)) 291 (by decide)) (hs_sets hF hM hU hun hX hHA t0 (by omega) (by omega) hp (by omega) (by omega)) ⟨hr_aR t0, hr_aI (by omega) (by omega), True.intro⟩ hW hS rfl (by decide) (by decide) (Nat.le_of_ble_eq_true rfl) dX12_readScene_106 (fun r pvv106 E106 H locs hpost hW hS => ?_)
            obtain ⟨hp, z106, rfl, hpost⟩ := hpost
            rcases hpost with ⟨q1, rfl, q3⟩ | ⟨q1, q2, C2, rfl, q3⟩
            · have ge := goes_got ge (fun j hj _ => q3 j hj)
              refine hr_ne0 (tgt := 65) hx hb dX12_readScene_109 (by decide) (fun h109 => ?_) (fun h109 => ?_)
              · omega
              refine hr_ic hx hb dX12_readScene_112 (by decide) (fun z112 hz112 => ?_)
              have hW := hr_mono (fun _ h => h.1) hW
              refine cm_zret B hb rfl ⟨by omega, by omega⟩ ⟨_, List.mem_cons_self, hr_aI (ty := ty) (by omega) (by omega), (fun q h => nomatch h), ?_⟩ hW hS dX12_readScene_113
              have s13 := hr_pv hp 13 (lo := 0) (hi := 940) rfl
              have s14 := hr_pv hp 14 (lo := 0) (hi := 4) rfl
              have s23 := hr_pv hp 23 (lo := 0) (hi := 12) rfl
              obtain ⟨ge1, ge2, ge3⟩ := ge
              refine hr_mk (n := 25) [13, 14, 24, 23] hp0 (fun j h1 h2 => ge1 j h1 (fun q => h2 (by simp only [List.mem_cons, List.not_mem_nil, or_false] at q ⊢; omega))) (by decide +kernel) (fun j hj av hav => ?_)
              rcases List.mem_cons.mp hj with rfl | hj
              · have hav : some (.inl (0, 940, [(2026, 0, 940)]) : ck_AV) = some av := hav
                cases hav
                exact hr_vd (q := 13) (by omega) (by omega) (by omega) (by omega)
              rcases List.mem_cons.mp hj with rfl | hj
              · have hav : some (.inl (0, 4, []) : ck_AV) = some av := hav
                cases hav
                exact hr_aI (by omega) (by omega)
              rcases List.mem_cons.mp hj with rfl | hj
              · have hav : some (.inl (-2147483648, 2147483647, []) : ck_AV) = some av := hav
                cases hav
                exact hr_aF
              obtain rfl := List.mem_singleton.mp hj
              have hav : some (.inl (0, 12, []) : ck_AV) = some av := hav
              cases hav
              exact hr_aI (by omega) (by omega)
            have ge := goes_tr (by have := ge.2.1; omega) ge.1 q2
            refine hr_ne0 (tgt := 65) hx hb dX12_readScene_109 (by decide) (fun h109 => ?_) (fun h109 => ?_)
            · rw [show z105.toInt.toNat = (116 + k.toInt).toNat by omega] at q3
              exact ih65 k pvv106 C2 _ _ _ (by omega) (by omega) (by omega) (by omega) ge hp hl hW hS
            · omega
        obtain rfl := List.mem_singleton.mp hcs
        obtain ⟨hr, hq, hc⟩ := hca
        obtain ⟨z95, rfl, lz95, uz95⟩ := hr_rvI hr
        have hp := hr_std hp hc (by decide +kernel)
        have e95w13 := congrArg Int32.toInt (hr_same1 hc (j := 13) (by decide +kernel))
        have e95w14 := congrArg Int32.toInt (hr_same1 hc (j := 14) (by decide +kernel))
        have e95r24 := hr_pv hc 24 (lo := 0) (hi := 5) rfl
        have e95w23 := congrArg Int32.toInt (hr_same1 hc (j := 23) (by decide +kernel))
        have ge := goes_got ge (hr_sameX (l := [24]) hc (by decide +kernel))
        refine hr_eq0 (tgt := 112) hx hb dX12_readScene_98 (by decide) (fun h98 => ?_) (fun h98 => ?_)
        · refine hr_ic hx hb dX12_readScene_112 (by decide) (fun z112 hz112 => ?_)
          have hW := hr_mono (fun _ h => h.1) hW
          refine cm_zret B hb rfl ⟨by omega, by omega⟩ ⟨_, List.mem_cons_self, hr_aI (ty := ty) (by omega) (by omega), (fun q h => nomatch h), ?_⟩ hW hS dX12_readScene_113
          have s13 := hr_pv hp 13 (lo := 0) (hi := 940) rfl
          have s14 := hr_pv hp 14 (lo := 0) (hi := 4) rfl
          have s23 := hr_pv hp 23 (lo := 0) (hi := 12) rfl
          obtain ⟨ge1, ge2, ge3⟩ := ge
          refine hr_mk (n := 25) [13, 14, 24, 23] hp0 (fun j h1 h2 => ge1 j h1 (fun q => h2 (by simp only [List.mem_cons, List.not_mem_nil, or_false] at q ⊢; omega))) (by decide +kernel) (fun j hj av hav => ?_)
          rcases List.mem_cons.mp hj with rfl | hj
          · have hav : some (.inl (0, 940, [(2026, 0, 940)]) : ck_AV) = some av := hav
            cases hav
            exact hr_vd (q := 13) (by omega) (by omega) (by omega) (by omega)
          rcases List.mem_cons.mp hj with rfl | hj
          · have hav : some (.inl (0, 4, []) : ck_AV) = some av := hav
            cases hav
            exact hr_aI (by omega) (by omega)
          rcases List.mem_cons.mp hj with rfl | hj
          · have hav : some (.inl (-2147483648, 2147483647, []) : ck_AV) = some av := hav
            cases hav
            exact hr_aF
          obtain rfl := List.mem_singleton.mp hj
          have hav : some (.inl (0, 12, []) : ck_AV) = some av := hav
          cases hav
          exact hr_aI (by omega) (by omega)
        · refine lv_aload_n hx hb dX12_readScene_101 rfl (lv_at hl 1 rfl) ?_
          refine hr_bp hx hb dX12_readScene_102 (by decide) (by decide) (fun z102 hz102 => ?_)
          refine lv_iload_n hx hb dX12_readScene_104 rfl (lv_at hl 0 rfl) ?_
          refine hr_add hx hb dX12_readScene_105 (by omega) (by omega) (fun z105 hz105 => ?_)
          refine hr_callV (kc := ck_tab 291) B rfl hb hl (hM.1 _ _ 0 [291] (isM (by decide +kernel)) 291 (by decide)) (hs_sets hF hM hU hun hX hHA t0 (by omega) (by omega) hp (by omega) (by omega)) ⟨hr_aR t0, hr_aI (by omega) (by omega), True.intro⟩ hW hS rfl (by decide) (by decide) (Nat.le_of_ble_eq_true rfl) dX12_readScene_106 (fun r pvv106 E106 H locs hpost hW hS => ?_)
          obtain ⟨hp, z106, rfl, hpost⟩ := hpost
          rcases hpost with ⟨q1, rfl, q3⟩ | ⟨q1, q2, C2, rfl, q3⟩
          · have ge := goes_got ge (fun j hj _ => q3 j hj)
            refine hr_ne0 (tgt := 65) hx hb dX12_readScene_109 (by decide) (fun h109 => ?_) (fun h109 => ?_)
            · omega
            refine hr_ic hx hb dX12_readScene_112 (by decide) (fun z112 hz112 => ?_)
            have hW := hr_mono (fun _ h => h.1) hW
            refine cm_zret B hb rfl ⟨by omega, by omega⟩ ⟨_, List.mem_cons_self, hr_aI (ty := ty) (by omega) (by omega), (fun q h => nomatch h), ?_⟩ hW hS dX12_readScene_113
            have s13 := hr_pv hp 13 (lo := 0) (hi := 940) rfl
            have s14 := hr_pv hp 14 (lo := 0) (hi := 4) rfl
            have s23 := hr_pv hp 23 (lo := 0) (hi := 12) rfl
            obtain ⟨ge1, ge2, ge3⟩ := ge
            refine hr_mk (n := 25) [13, 14, 24, 23] hp0 (fun j h1 h2 => ge1 j h1 (fun q => h2 (by simp only [List.mem_cons, List.not_mem_nil, or_false] at q ⊢; omega))) (by decide +kernel) (fun j hj av hav => ?_)
            rcases List.mem_cons.mp hj with rfl | hj
            · have hav : some (.inl (0, 940, [(2026, 0, 940)]) : ck_AV) = some av := hav
              cases hav
              exact hr_vd (q := 13) (by omega) (by omega) (by omega) (by omega)
            rcases List.mem_cons.mp hj with rfl | hj
            · have hav : some (.inl (0, 4, []) : ck_AV) = some av := hav
              cases hav
              exact hr_aI (by omega) (by omega)
            rcases List.mem_cons.mp hj with rfl | hj
            · have hav : some (.inl (-2147483648, 2147483647, []) : ck_AV) = some av := hav
              cases hav
              exact hr_aF
            obtain rfl := List.mem_singleton.mp hj
            have hav : some (.inl (0, 12, []) : ck_AV) = some av := hav
            cases hav
            exact hr_aI (by omega) (by omega)
          have ge := goes_tr (by have := ge.2.1; omega) ge.1 q2
          refine hr_ne0 (tgt := 65) hx hb dX12_readScene_109 (by decide) (fun h109 => ?_) (fun h109 => ?_)
          · rw [show z105.toInt.toNat = (116 + k.toInt).toNat by omega] at q3
            exact ih65 k pvv106 C2 _ _ _ (by omega) (by omega) (by omega) (by omega) ge hp hl hW hS
          · omega
      · refine lv_aload_n hx hb dX12_readScene_77 rfl (lv_at hl 1 rfl) ?_
        refine hr_bp hx hb dX12_readScene_78 (by decide) (by decide) (fun z78 hz78 => ?_)
        refine cm_callV (kc := kc_196) B rfl hb hl (hM.1 _ _ 0 [196] (isM (by decide +kernel)) 196 (by decide)) (hHA _ (hX2 _) 196 (by decide)) (b := a0) (As := [.int z78]) ⟨hr_aR t0, hr_aF, True.intro⟩ hp hW hS rfl (by decide) (by decide) (Nat.le_of_ble_eq_true rfl) dX12_readScene_80 (fun cs hcs r pvv80 H locs hca hW hS => ?_)
        rcases List.mem_cons.mp hcs with rfl | hcs
        · obtain ⟨hr, hq, hc⟩ := hca
          obtain ⟨z80, rfl, lz80, uz80⟩ := hr_rvI hr
          have hW := hr_pvE (hr_sameA hc rfl (by decide +kernel)) hW
          refine hr_ne0 (tgt := 114) hx hb dX12_readScene_83 (by decide) (fun h83 => ?_) (fun h83 => ?_)
          · have hW := hr_mono (fun _ h => h.1) hW
            have k9 : (pvv 23).toInt = (pvv0 23).toInt := by rw [ge.1 23 (by decide) (by decide)]
            refine lv_aload_n hx hb dX12_readScene_114 rfl (lv_at hl 1 rfl) ?_
            refine hr_getR B hF hb hW (ci := 12) (j := 7) (cd := 3) t0 rfl (isF (by decide +kernel)) rfl dX12_readScene_115 (fun az115 tz115 xz115 => ?_)
            refine hr_ic hx hb dX12_readScene_118 (by decide) (fun z118 hz118 => ?_)
            refine lv_dup2_11 hx hb dX12_readScene_119 rfl rfl ?_
            refine hr_iald B hb hW tz115 rfl (by omega) (by omega) dX12_readScene_120 (fun z120 iz120 pz120 xz120 => ?_)
            have iz120 := hr_inr iz120 (a := 4) (b := 4) (lo := 0) (hi := 12) (by omega) (by omega) (by decide +kernel)
            have pz120 := congrArg Int32.toInt (pz120 23 (by rw [show z118.toInt.toNat = 4 by omega]; rfl))
            refine hr_ic hx hb dX12_readScene_121 (by decide) (fun z121 hz121 => ?_)
            refine hr_add hx hb dX12_readScene_122 (by omega) (by omega) (fun z122 hz122 => ?_)
            refine hr_iastP B hb hU hW hS tz115 rfl (by omega) (by omega) (hr_ins (a := 4) (b := 4) (lo := 0) (hi := 12) (by omega) (by omega) (by decide +kernel) (by omega) (by omega)) (hr_EA (i := z118) hX tz115 (u := 4) (v := 4) (by omega) (by omega) (by decide)) hI (q0 := 23) (w := 4) (by omega) rfl dX12_readScene_123 (fun H locs hW hS => ?_)
            obtain ⟨pvv123, e123⟩ : ∃ f, f = upd pvv 23 z122 := ⟨_, rfl⟩
            rw [← e123] at hW
            have e123q : pvv123 23 = z122 := by rw [e123, pk_us]
            have e123qi := congrArg Int32.toInt e123q
            have e123w13 : (pvv123 13).toInt = (pvv 13).toInt := by rw [e123, pk_un (by decide)]
            have e123w14 : (pvv123 14).toInt = (pvv 14).toInt := by rw [e123, pk_un (by decide)]
            have e123w24 : (pvv123 24).toInt = (pvv 24).toInt := by rw [e123, pk_un (by decide)]
            have hp := hr_updS hp (q := 23) (x := z122) (lo := 0) (hi := 12) rfl (by omega) (by omega) (by decide +kernel); rw [← e123] at hp
            refine hr_ic hx hb dX12_readScene_124 (by decide) (fun z124 hz124 => ?_)
            refine cm_zret B hb rfl ⟨by omega, by omega⟩ ⟨_, (List.mem_cons_of_mem _ List.mem_cons_self), hr_aI (ty := ty) (by omega) (by omega), (fun q h => nomatch h), ?_⟩ hW hS dX12_readScene_125
            have s13 := hr_pv hp 13 (lo := 0) (hi := 940) rfl
            have s14 := hr_pv hp 14 (lo := 0) (hi := 4) rfl
            have s23 := hr_pv hp 23 (lo := 0) (hi := 12) rfl
            obtain ⟨ge1, ge2, ge3⟩ := ge
            refine hr_mk (n := 25) [13, 14, 24, 23] hp0 (fun j h1 h2 => by rw [e123, pk_un (fun q => h2 (by rw [q]; decide))]; exact ge1 j h1 (fun q => h2 (by simp only [List.mem_cons, List.not_mem_nil, or_false] at q ⊢; omega))) (by decide +kernel) (fun j hj av hav => ?_)
            rcases List.mem_cons.mp hj with rfl | hj
            · have hav : some (.inl (0, 940, [(2026, 1, 940)]) : ck_AV) = some av := hav
              cases hav
              exact hr_vd (q := 13) (by omega) (by omega) (by omega) (by omega)
            rcases List.mem_cons.mp hj with rfl | hj
            · have hav : some (.inl (3, 3, []) : ck_AV) = some av := hav
              cases hav
              exact hr_aI (by omega) (by omega)
            rcases List.mem_cons.mp hj with rfl | hj
            · have hav : some (.inl (-2147483648, 2147483647, []) : ck_AV) = some av := hav
              cases hav
              exact hr_aF
            obtain rfl := List.mem_singleton.mp hj
            have hav : some (.inl (0, 12, []) : ck_AV) = some av := hav
            cases hav
            exact hr_aI (by omega) (by omega)
          · refine lv_aload_n hx hb dX12_readScene_86 rfl (lv_at hl 1 rfl) ?_
            refine hr_bp hx hb dX12_readScene_87 (by decide) (by decide) (fun z87 hz87 => ?_)
            refine lv_aload_n hx hb dX12_readScene_89 rfl (lv_at hl 1 rfl) ?_
            refine hr_getR B hF hb hW (ci := 12) (j := 7) (cd := 3) t0 rfl (isF (by decide +kernel)) rfl dX12_readScene_90 (fun az90 tz90 xz90 => ?_)
            refine hr_ic hx hb dX12_readScene_93 (by decide) (fun z93 hz93 => ?_)
            refine hr_iald B hb hW tz90 rfl (by omega) (by omega) dX12_readScene_94 (fun z94 iz94 pz94 xz94 => ?_)
            have iz94 := hr_inr iz94 (a := 0) (b := 0) (lo := 0) (hi := 6) (by omega) (by omega) (by decide +kernel)
            have pz94 := congrArg Int32.toInt (pz94 19 (by rw [show z93.toInt.toNat = 0 by omega]; rfl))
            refine cm_callV (kc := kc_210) B rfl hb hl (hM.1 _ _ 0 [210, 211] (isM (by decide +kernel)) 210 (by decide)) (hHA _ (hX2 _) 210 (by decide)) (b := a0) (As := [.int z87, .int z94]) ⟨hr_aR t0, hr_aI (by omega) (by omega), hr_aI (by omega) (by omega), True.intro⟩ hp hW hS rfl (by decide) (by decide) (Nat.le_of_ble_eq_true rfl) dX12_readScene_95 (fun cs hcs r pvv95 H locs hca hW hS => ?_)
            rcases List.mem_cons.mp hcs with rfl | hcs
            · obtain ⟨hr, hq, hc⟩ := hca
              obtain ⟨z95, rfl, lz95, uz95⟩ := hr_rvI hr
              have hp := hr_std hp hc (by decide +kernel)
              have e95w13 := congrArg Int32.toInt (hr_same1 hc (j := 13) (by decide +kernel))
              have e95w14 := congrArg Int32.toInt (hr_same1 hc (j := 14) (by decide +kernel))
              have e95w23 := congrArg Int32.toInt (hr_same1 hc (j := 23) (by decide +kernel))
              have ge := goes_got ge (hr_sameX (l := [24]) hc (by decide +kernel))
              refine hr_eq0 (tgt := 112) hx hb dX12_readScene_98 (by decide) (fun h98 => ?_) (fun h98 => ?_)
              · refine hr_ic hx hb dX12_readScene_112 (by decide) (fun z112 hz112 => ?_)
                have hW := hr_mono (fun _ h => h.1) hW
                refine cm_zret B hb rfl ⟨by omega, by omega⟩ ⟨_, List.mem_cons_self, hr_aI (ty := ty) (by omega) (by omega), (fun q h => nomatch h), ?_⟩ hW hS dX12_readScene_113
                have s13 := hr_pv hp 13 (lo := 0) (hi := 940) rfl
                have s14 := hr_pv hp 14 (lo := 0) (hi := 4) rfl
                have s23 := hr_pv hp 23 (lo := 0) (hi := 12) rfl
                obtain ⟨ge1, ge2, ge3⟩ := ge
                refine hr_mk (n := 25) [13, 14, 24, 23] hp0 (fun j h1 h2 => ge1 j h1 (fun q => h2 (by simp only [List.mem_cons, List.not_mem_nil, or_false] at q ⊢; omega))) (by decide +kernel) (fun j hj av hav => ?_)
                rcases List.mem_cons.mp hj with rfl | hj
                · have hav : some (.inl (0, 940, [(2026, 0, 940)]) : ck_AV) = some av := hav
                  cases hav
                  exact hr_vd (q := 13) (by omega) (by omega) (by omega) (by omega)
                rcases List.mem_cons.mp hj with rfl | hj
                · have hav : some (.inl (0, 4, []) : ck_AV) = some av := hav
                  cases hav
                  exact hr_aI (by omega) (by omega)
                rcases List.mem_cons.mp hj with rfl | hj
                · have hav : some (.inl (-2147483648, 2147483647, []) : ck_AV) = some av := hav
                  cases hav
                  exact hr_aF
                obtain rfl := List.mem_singleton.mp hj
                have hav : some (.inl (0, 12, []) : ck_AV) = some av := hav
                cases hav
                exact hr_aI (by omega) (by omega)
              · refine lv_aload_n hx hb dX12_readScene_101 rfl (lv_at hl 1 rfl) ?_
                refine hr_bp hx hb dX12_readScene_102 (by decide) (by decide) (fun z102 hz102 => ?_)
                refine lv_iload_n hx hb dX12_readScene_104 rfl (lv_at hl 0 rfl) ?_
                refine hr_add hx hb dX12_readScene_105 (by omega) (by omega) (fun z105 hz105 => ?_)
                refine hr_callV (kc := ck_tab 291) B rfl hb hl (hM.1 _ _ 0 [291] (isM (by decide +kernel)) 291 (by decide)) (hs_sets hF hM hU hun hX hHA t0 (by omega) (by omega) hp (by omega) (by omega)) ⟨hr_aR t0, hr_aI (by omega) (by omega), True.intro⟩ hW hS rfl (by decide) (by decide) (Nat.le_of_ble_eq_true rfl) dX12_readScene_106 (fun r pvv106 E106 H locs hpost hW hS => ?_)
                obtain ⟨hp, z106, rfl, hpost⟩ := hpost
                rcases hpost with ⟨q1, rfl, q3⟩ | ⟨q1, q2, C2, rfl, q3⟩
                · have ge := goes_got ge (fun j hj _ => q3 j hj)
                  refine hr_ne0 (tgt := 65) hx hb dX12_readScene_109 (by decide) (fun h109 => ?_) (fun h109 => ?_)
                  · omega
                  refine hr_ic hx hb dX12_readScene_112 (by decide) (fun z112 hz112 => ?_)
                  have hW := hr_mono (fun _ h => h.1) hW
                  refine cm_zret B hb rfl ⟨by omega, by omega⟩ ⟨_, List.mem_cons_self, hr_aI (ty := ty) (by omega) (by omega), (fun q h => nomatch h), ?_⟩ hW hS dX12_readScene_113
                  have s13 := hr_pv hp 13 (lo := 0) (hi := 940) rfl
                  have s14 := hr_pv hp 14 (lo := 0) (hi := 4) rfl
                  have s23 := hr_pv hp 23 (lo := 0) (hi := 12) rfl
                  obtain ⟨ge1, ge2, ge3⟩ := ge
                  refine hr_mk (n := 25) [13, 14, 24, 23] hp0 (fun j h1 h2 => ge1 j h1 (fun q => h2 (by simp only [List.mem_cons, List.not_mem_nil, or_false] at q ⊢; omega))) (by decide +kernel) (fun j hj av hav => ?_)
                  rcases List.mem_cons.mp hj with rfl | hj
                  · have hav : some (.inl (0, 940, [(2026, 0, 940)]) : ck_AV) = some av := hav
                    cases hav
                    exact hr_vd (q := 13) (by omega) (by omega) (by omega) (by omega)
                  rcases List.mem_cons.mp hj with rfl | hj
                  · have hav : some (.inl (0, 4, []) : ck_AV) = some av := hav
                    cases hav
                    exact hr_aI (by omega) (by omega)
                  rcases List.mem_cons.mp hj with rfl | hj
                  · have hav : some (.inl (-2147483648, 2147483647, []) : ck_AV) = some av := hav
                    cases hav
                    exact hr_aF
                  obtain rfl := List.mem_singleton.mp hj
                  have hav : some (.inl (0, 12, []) : ck_AV) = some av := hav
                  cases hav
                  exact hr_aI (by omega) (by omega)
                have ge := goes_tr (by have := ge.2.1; omega) ge.1 q2
                refine hr_ne0 (tgt := 65) hx hb dX12_readScene_109 (by decide) (fun h109 => ?_) (fun h109 => ?_)
                · rw [show z105.toInt.toNat = (116 + k.toInt).toNat by omega] at q3
                  exact ih65 k pvv106 C2 _ _ _ (by omega) (by omega) (by omega) (by omega) ge hp hl hW hS
                · omega
            obtain rfl := List.mem_singleton.mp hcs
            obtain ⟨hr, hq, hc⟩ := hca
            obtain ⟨z95, rfl, lz95, uz95⟩ := hr_rvI hr
            have hp := hr_std hp hc (by decide +kernel)
            have e95w13 := congrArg Int32.toInt (hr_same1 hc (j := 13) (by decide +kernel))
            have e95w14 := congrArg Int32.toInt (hr_same1 hc (j := 14) (by decide +kernel))
            have e95r24 := hr_pv hc 24 (lo := 0) (hi := 5) rfl
            have e95w23 := congrArg Int32.toInt (hr_same1 hc (j := 23) (by decide +kernel))
            have ge := goes_got ge (hr_sameX (l := [24]) hc (by decide +kernel))
            refine hr_eq0 (tgt := 112) hx hb dX12_readScene_98 (by decide) (fun h98 => ?_) (fun h98 => ?_)
            · refine hr_ic hx hb dX12_readScene_112 (by decide) (fun z112 hz112 => ?_)
              have hW := hr_mono (fun _ h => h.1) hW
              refine cm_zret B hb rfl ⟨by omega, by omega⟩ ⟨_, List.mem_cons_self, hr_aI (ty := ty) (by omega) (by omega), (fun q h => nomatch h), ?_⟩ hW hS dX12_readScene_113
              have s13 := hr_pv hp 13 (lo := 0) (hi := 940) rfl
              have s14 := hr_pv hp 14 (lo := 0) (hi := 4) rfl
              have s23 := hr_pv hp 23 (lo := 0) (hi := 12) rfl
              obtain ⟨ge1, ge2, ge3⟩ := ge
              refine hr_mk (n := 25) [13, 14, 24, 23] hp0 (fun j h1 h2 => ge1 j h1 (fun q => h2 (by simp only [List.mem_cons, List.not_mem_nil, or_false] at q ⊢; omega))) (by decide +kernel) (fun j hj av hav => ?_)
              rcases List.mem_cons.mp hj with rfl | hj
              · have hav : some (.inl (0, 940, [(2026, 0, 940)]) : ck_AV) = some av := hav
                cases hav
                exact hr_vd (q := 13) (by omega) (by omega) (by omega) (by omega)
              rcases List.mem_cons.mp hj with rfl | hj
              · have hav : some (.inl (0, 4, []) : ck_AV) = some av := hav
                cases hav
                exact hr_aI (by omega) (by omega)
              rcases List.mem_cons.mp hj with rfl | hj
              · have hav : some (.inl (-2147483648, 2147483647, []) : ck_AV) = some av := hav
                cases hav
                exact hr_aF
              obtain rfl := List.mem_singleton.mp hj
              have hav : some (.inl (0, 12, []) : ck_AV) = some av := hav
              cases hav
              exact hr_aI (by omega) (by omega)
            · refine lv_aload_n hx hb dX12_readScene_101 rfl (lv_at hl 1 rfl) ?_
              refine hr_bp hx hb dX12_readScene_102 (by decide) (by decide) (fun z102 hz102 => ?_)
              refine lv_iload_n hx hb dX12_readScene_104 rfl (lv_at hl 0 rfl) ?_
              refine hr_add hx hb dX12_readScene_105 (by omega) (by omega) (fun z105 hz105 => ?_)
              refine hr_callV (kc := ck_tab 291) B rfl hb hl (hM.1 _ _ 0 [291] (isM (by decide +kernel)) 291 (by decide)) (hs_sets hF hM hU hun hX hHA t0 (by omega) (by omega) hp (by omega) (by omega)) ⟨hr_aR t0, hr_aI (by omega) (by omega), True.intro⟩ hW hS rfl (by decide) (by decide) (Nat.le_of_ble_eq_true rfl) dX12_readScene_106 (fun r pvv106 E106 H locs hpost hW hS => ?_)
              obtain ⟨hp, z106, rfl, hpost⟩ := hpost
              rcases hpost with ⟨q1, rfl, q3⟩ | ⟨q1, q2, C2, rfl, q3⟩
              · have ge := goes_got ge (fun j hj _ => q3 j hj)
                refine hr_ne0 (tgt := 65) hx hb dX12_readScene_109 (by decide) (fun h109 => ?_) (fun h109 => ?_)
                · omega
                refine hr_ic hx hb dX12_readScene_112 (by decide) (fun z112 hz112 => ?_)
                have hW := hr_mono (fun _ h => h.1) hW
                refine cm_zret B hb rfl ⟨by omega, by omega⟩ ⟨_, List.mem_cons_self, hr_aI (ty := ty) (by omega) (by omega), (fun q h => nomatch h), ?_⟩ hW hS dX12_readScene_113
                have s13 := hr_pv hp 13 (lo := 0) (hi := 940) rfl
                have s14 := hr_pv hp 14 (lo := 0) (hi := 4) rfl
                have s23 := hr_pv hp 23 (lo := 0) (hi := 12) rfl
                obtain ⟨ge1, ge2, ge3⟩ := ge
                refine hr_mk (n := 25) [13, 14, 24, 23] hp0 (fun j h1 h2 => ge1 j h1 (fun q => h2 (by simp only [List.mem_cons, List.not_mem_nil, or_false] at q ⊢; omega))) (by decide +kernel) (fun j hj av hav => ?_)
                rcases List.mem_cons.mp hj with rfl | hj
                · have hav : some (.inl (0, 940, [(2026, 0, 940)]) : ck_AV) = some av := hav
                  cases hav
                  exact hr_vd (q := 13) (by omega) (by omega) (by omega) (by omega)
                rcases List.mem_cons.mp hj with rfl | hj
                · have hav : some (.inl (0, 4, []) : ck_AV) = some av := hav
                  cases hav
                  exact hr_aI (by omega) (by omega)
                rcases List.mem_cons.mp hj with rfl | hj
                · have hav : some (.inl (-2147483648, 2147483647, []) : ck_AV) = some av := hav
                  cases hav
                  exact hr_aF
                obtain rfl := List.mem_singleton.mp hj
                have hav : some (.inl (0, 12, []) : ck_AV) = some av := hav
                cases hav
                exact hr_aI (by omega) (by omega)
              have ge := goes_tr (by have := ge.2.1; omega) ge.1 q2
              refine hr_ne0 (tgt := 65) hx hb dX12_readScene_109 (by decide) (fun h109 => ?_) (fun h109 => ?_)
              · rw [show z105.toInt.toNat = (116 + k.toInt).toNat by omega] at q3
                exact ih65 k pvv106 C2 _ _ _ (by omega) (by omega) (by omega) (by omega) ge hp hl hW hS
              · omega
        obtain rfl := List.mem_singleton.mp hcs
        obtain ⟨hr, hq, hc⟩ := hca
        obtain ⟨z80, rfl, lz80, uz80⟩ := hr_rvI hr
        have e80r14 := hr_pv hc 14 (lo := 3) (hi := 3) rfl; rw [hr_same1 hc (j := 14) (by decide +kernel)] at e80r14
        have hW := hr_pvE (hr_sameA hc rfl (by decide +kernel)) hW
        refine hr_ne0 (tgt := 114) hx hb dX12_readScene_83 (by decide) (fun h83 => ?_) (fun h83 => ?_)
        · have hW := hr_mono (fun _ h => h.1) hW
          have k9 : (pvv 23).toInt = (pvv0 23).toInt := by rw [ge.1 23 (by decide) (by decide)]
          refine lv_aload_n hx hb dX12_readScene_114 rfl (lv_at hl 1 rfl) ?_
          refine hr_getR B hF hb hW (ci := 12) (j := 7) (cd := 3) t0 rfl (isF (by decide +kernel)) rfl dX12_readScene_115 (fun az115 tz115 xz115 => ?_)
          refine hr_ic hx hb dX12_readScene_118 (by decide) (fun z118 hz118 => ?_)
          refine lv_dup2_11 hx hb dX12_readScene_119 rfl rfl ?_
          refine hr_iald B hb hW tz115 rfl (by omega) (by omega) dX12_readScene_120 (fun z120 iz120 pz120 xz120 => ?_)
          have iz120 := hr_inr iz120 (a := 4) (b := 4) (lo := 0) (hi := 12) (by omega) (by omega) (by decide +kernel)
          have pz120 := congrArg Int32.toInt (pz120 23 (by rw [show z118.toInt.toNat = 4 by omega]; rfl))
          refine hr_ic hx hb dX12_readScene_121 (by decide) (fun z121 hz121 => ?_)
          refine hr_add hx hb dX12_readScene_122 (by omega) (by omega) (fun z122 hz122 => ?_)
          refine hr_iastP B hb hU hW hS tz115 rfl (by omega) (by omega) (hr_ins (a := 4) (b := 4) (lo := 0) (hi := 12) (by omega) (by omega) (by decide +kernel) (by omega) (by omega)) (hr_EA (i := z118) hX tz115 (u := 4) (v := 4) (by omega) (by omega) (by decide)) hI (q0 := 23) (w := 4) (by omega) rfl dX12_readScene_123 (fun H locs hW hS => ?_)
          obtain ⟨pvv123, e123⟩ : ∃ f, f = upd pvv 23 z122 := ⟨_, rfl⟩
          rw [← e123] at hW
          have e123q : pvv123 23 = z122 := by rw [e123, pk_us]
          have e123qi := congrArg Int32.toInt e123q
          have e123w13 : (pvv123 13).toInt = (pvv 13).toInt := by rw [e123, pk_un (by decide)]
          have e123w14 : (pvv123 14).toInt = (pvv 14).toInt := by rw [e123, pk_un (by decide)]
          have e123w24 : (pvv123 24).toInt = (pvv 24).toInt := by rw [e123, pk_un (by decide)]
          have hp := hr_updS hp (q := 23) (x := z122) (lo := 0) (hi := 12) rfl (by omega) (by omega) (by decide +kernel); rw [← e123] at hp
          refine hr_ic hx hb dX12_readScene_124 (by decide) (fun z124 hz124 => ?_)
          refine cm_zret B hb rfl ⟨by omega, by omega⟩ ⟨_, (List.mem_cons_of_mem _ List.mem_cons_self), hr_aI (ty := ty) (by omega) (by omega), (fun q h => nomatch h), ?_⟩ hW hS dX12_readScene_125
          have s13 := hr_pv hp 13 (lo := 0) (hi := 940) rfl
          have s14 := hr_pv hp 14 (lo := 0) (hi := 4) rfl
          have s23 := hr_pv hp 23 (lo := 0) (hi := 12) rfl
          obtain ⟨ge1, ge2, ge3⟩ := ge
          refine hr_mk (n := 25) [13, 14, 24, 23] hp0 (fun j h1 h2 => by rw [e123, pk_un (fun q => h2 (by rw [q]; decide))]; exact ge1 j h1 (fun q => h2 (by simp only [List.mem_cons, List.not_mem_nil, or_false] at q ⊢; omega))) (by decide +kernel) (fun j hj av hav => ?_)
          rcases List.mem_cons.mp hj with rfl | hj
          · have hav : some (.inl (0, 940, [(2026, 1, 940)]) : ck_AV) = some av := hav
            cases hav
            exact hr_vd (q := 13) (by omega) (by omega) (by omega) (by omega)
          rcases List.mem_cons.mp hj with rfl | hj
          · have hav : some (.inl (3, 3, []) : ck_AV) = some av := hav
            cases hav
            exact hr_aI (by omega) (by omega)
          rcases List.mem_cons.mp hj with rfl | hj
          · have hav : some (.inl (-2147483648, 2147483647, []) : ck_AV) = some av := hav
            cases hav
            exact hr_aF
          obtain rfl := List.mem_singleton.mp hj
          have hav : some (.inl (0, 12, []) : ck_AV) = some av := hav
          cases hav
          exact hr_aI (by omega) (by omega)
        · refine lv_aload_n hx hb dX12_readScene_86 rfl (lv_at hl 1 rfl) ?_
          refine hr_bp hx hb dX12_readScene_87 (by decide) (by decide) (fun z87 hz87 => ?_)
          refine lv_aload_n hx hb dX12_readScene_89 rfl (lv_at hl 1 rfl) ?_
          refine hr_getR B hF hb hW (ci := 12) (j := 7) (cd := 3) t0 rfl (isF (by decide +kernel)) rfl dX12_readScene_90 (fun az90 tz90 xz90 => ?_)
          refine hr_ic hx hb dX12_readScene_93 (by decide) (fun z93 hz93 => ?_)
          refine hr_iald B hb hW tz90 rfl (by omega) (by omega) dX12_readScene_94 (fun z94 iz94 pz94 xz94 => ?_)
          have iz94 := hr_inr iz94 (a := 0) (b := 0) (lo := 0) (hi := 6) (by omega) (by omega) (by decide +kernel)
          have pz94 := congrArg Int32.toInt (pz94 19 (by rw [show z93.toInt.toNat = 0 by omega]; rfl))
          refine cm_callV (kc := kc_210) B rfl hb hl (hM.1 _ _ 0 [210, 211] (isM (by decide +kernel)) 210 (by decide)) (hHA _ (hX2 _) 210 (by decide)) (b := a0) (As := [.int z87, .int z94]) ⟨hr_aR t0, hr_aI (by omega) (by omega), hr_aI (by omega) (by omega), True.intro⟩ hp hW hS rfl (by decide) (by decide) (Nat.le_of_ble_eq_true rfl) dX12_readScene_95 (fun cs hcs r pvv95 H locs hca hW hS => ?_)
          rcases List.mem_cons.mp hcs with rfl | hcs
          · obtain ⟨hr, hq, hc⟩ := hca
            obtain ⟨z95, rfl, lz95, uz95⟩ := hr_rvI hr
            have hp := hr_std hp hc (by decide +kernel)
            have e95w13 := congrArg Int32.toInt (hr_same1 hc (j := 13) (by decide +kernel))
            have e95w14 := congrArg Int32.toInt (hr_same1 hc (j := 14) (by decide +kernel))
            have e95w23 := congrArg Int32.toInt (hr_same1 hc (j := 23) (by decide +kernel))
            have ge := goes_got ge (hr_sameX (l := [24]) hc (by decide +kernel))
            refine hr_eq0 (tgt := 112) hx hb dX12_readScene_98 (by decide) (fun h98 => ?_) (fun h98 => ?_)
            · refine hr_ic hx hb dX12_readScene_112 (by decide) (fun z112 hz112 => ?_)
              have hW := hr_mono (fun _ h => h.1) hW
              refine cm_zret B hb rfl ⟨by omega, by omega⟩ ⟨_, List.mem_cons_self, hr_aI (ty := ty) (by omega) (by omega), (fun q h => nomatch h), ?_⟩ hW hS dX12_readScene_113
              have s13 := hr_pv hp 13 (lo := 0) (hi := 940) rfl
              have s14 := hr_pv hp 14 (lo := 0) (hi := 4) rfl
              have s23 := hr_pv hp 23 (lo := 0) (hi := 12) rfl
              obtain ⟨ge1, ge2, ge3⟩ := ge
              refine hr_mk (n := 25) [13, 14, 24, 23] hp0 (fun j h1 h2 => ge1 j h1 (fun q => h2 (by simp only [List.mem_cons, List.not_mem_nil, or_false] at q ⊢; omega))) (by decide +kernel) (fun j hj av hav => ?_)
              rcases List.mem_cons.mp hj with rfl | hj
              · have hav : some (.inl (0, 940, [(2026, 0, 940)]) : ck_AV) = some av := hav
                cases hav
                exact hr_vd (q := 13) (by omega) (by omega) (by omega) (by omega)
              rcases List.mem_cons.mp hj with rfl | hj
              · have hav : some (.inl (0, 4, []) : ck_AV) = some av := hav
                cases hav
                exact hr_aI (by omega) (by omega)
              rcases List.mem_cons.mp hj with rfl | hj
              · have hav : some (.inl (-2147483648, 2147483647, []) : ck_AV) = some av := hav
                cases hav
                exact hr_aF
              obtain rfl := List.mem_singleton.mp hj
              have hav : some (.inl (0, 12, []) : ck_AV) = some av := hav
              cases hav
              exact hr_aI (by omega) (by omega)
            · refine lv_aload_n hx hb dX12_readScene_101 rfl (lv_at hl 1 rfl) ?_
              refine hr_bp hx hb dX12_readScene_102 (by decide) (by decide) (fun z102 hz102 => ?_)
              refine lv_iload_n hx hb dX12_readScene_104 rfl (lv_at hl 0 rfl) ?_
              refine hr_add hx hb dX12_readScene_105 (by omega) (by omega) (fun z105 hz105 => ?_)
              refine hr_callV (kc := ck_tab 291) B rfl hb hl (hM.1 _ _ 0 [291] (isM (by decide +kernel)) 291 (by decide)) (hs_sets hF hM hU hun hX hHA t0 (by omega) (by omega) hp (by omega) (by omega)) ⟨hr_aR t0, hr_aI (by omega) (by omega), True.intro⟩ hW hS rfl (by decide) (by decide) (Nat.le_of_ble_eq_true rfl) dX12_readScene_106 (fun r pvv106 E106 H locs hpost hW hS => ?_)
              obtain ⟨hp, z106, rfl, hpost⟩ := hpost
              rcases hpost with ⟨q1, rfl, q3⟩ | ⟨q1, q2, C2, rfl, q3⟩
              · have ge := goes_got ge (fun j hj _ => q3 j hj)
                refine hr_ne0 (tgt := 65) hx hb dX12_readScene_109 (by decide) (fun h109 => ?_) (fun h109 => ?_)
                · omega
                refine hr_ic hx hb dX12_readScene_112 (by decide) (fun z112 hz112 => ?_)
                have hW := hr_mono (fun _ h => h.1) hW
                refine cm_zret B hb rfl ⟨by omega, by omega⟩ ⟨_, List.mem_cons_self, hr_aI (ty := ty) (by omega) (by omega), (fun q h => nomatch h), ?_⟩ hW hS dX12_readScene_113
                have s13 := hr_pv hp 13 (lo := 0) (hi := 940) rfl
                have s14 := hr_pv hp 14 (lo := 0) (hi := 4) rfl
                have s23 := hr_pv hp 23 (lo := 0) (hi := 12) rfl
                obtain ⟨ge1, ge2, ge3⟩ := ge
                refine hr_mk (n := 25) [13, 14, 24, 23] hp0 (fun j h1 h2 => ge1 j h1 (fun q => h2 (by simp only [List.mem_cons, List.not_mem_nil, or_false] at q ⊢; omega))) (by decide +kernel) (fun j hj av hav => ?_)
                rcases List.mem_cons.mp hj with rfl | hj
                · have hav : some (.inl (0, 940, [(2026, 0, 940)]) : ck_AV) = some av := hav
                  cases hav
                  exact hr_vd (q := 13) (by omega) (by omega) (by omega) (by omega)
                rcases List.mem_cons.mp hj with rfl | hj
                · have hav : some (.inl (0, 4, []) : ck_AV) = some av := hav
                  cases hav
                  exact hr_aI (by omega) (by omega)
                rcases List.mem_cons.mp hj with rfl | hj
                · have hav : some (.inl (-2147483648, 2147483647, []) : ck_AV) = some av := hav
                  cases hav
                  exact hr_aF
                obtain rfl := List.mem_singleton.mp hj
                have hav : some (.inl (0, 12, []) : ck_AV) = some av := hav
                cases hav
                exact hr_aI (by omega) (by omega)
              have ge := goes_tr (by have := ge.2.1; omega) ge.1 q2
              refine hr_ne0 (tgt := 65) hx hb dX12_readScene_109 (by decide) (fun h109 => ?_) (fun h109 => ?_)
              · rw [show z105.toInt.toNat = (116 + k.toInt).toNat by omega] at q3
                exact ih65 k pvv106 C2 _ _ _ (by omega) (by omega) (by omega) (by omega) ge hp hl hW hS
              · omega
          obtain rfl := List.mem_singleton.mp hcs
          obtain ⟨hr, hq, hc⟩ := hca
          obtain ⟨z95, rfl, lz95, uz95⟩ := hr_rvI hr
          have hp := hr_std hp hc (by decide +kernel)
          have e95w13 := congrArg Int32.toInt (hr_same1 hc (j := 13) (by decide +kernel))
          have e95w14 := congrArg Int32.toInt (hr_same1 hc (j := 14) (by decide +kernel))
          have e95r24 := hr_pv hc 24 (lo := 0) (hi := 5) rfl
          have e95w23 := congrArg Int32.toInt (hr_same1 hc (j := 23) (by decide +kernel))
          have ge := goes_got ge (hr_sameX (l := [24]) hc (by decide +kernel))
          refine hr_eq0 (tgt := 112) hx hb dX12_readScene_98 (by decide) (fun h98 => ?_) (fun h98 => ?_)
          · refine hr_ic hx hb dX12_readScene_112 (by decide) (fun z112 hz112 => ?_)
            have hW := hr_mono (fun _ h => h.1) hW
            refine cm_zret B hb rfl ⟨by omega, by omega⟩ ⟨_, List.mem_cons_self, hr_aI (ty := ty) (by omega) (by omega), (fun q h => nomatch h), ?_⟩ hW hS dX12_readScene_113
            have s13 := hr_pv hp 13 (lo := 0) (hi := 940) rfl
            have s14 := hr_pv hp 14 (lo := 0) (hi := 4) rfl
            have s23 := hr_pv hp 23 (lo := 0) (hi := 12) rfl
            obtain ⟨ge1, ge2, ge3⟩ := ge
            refine hr_mk (n := 25) [13, 14, 24, 23] hp0 (fun j h1 h2 => ge1 j h1 (fun q => h2 (by simp only [List.mem_cons, List.not_mem_nil, or_false] at q ⊢; omega))) (by decide +kernel) (fun j hj av hav => ?_)
            rcases List.mem_cons.mp hj with rfl | hj
            · have hav : some (.inl (0, 940, [(2026, 0, 940)]) : ck_AV) = some av := hav
              cases hav
              exact hr_vd (q := 13) (by omega) (by omega) (by omega) (by omega)
            rcases List.mem_cons.mp hj with rfl | hj
            · have hav : some (.inl (0, 4, []) : ck_AV) = some av := hav
              cases hav
              exact hr_aI (by omega) (by omega)
            rcases List.mem_cons.mp hj with rfl | hj
            · have hav : some (.inl (-2147483648, 2147483647, []) : ck_AV) = some av := hav
              cases hav
              exact hr_aF
            obtain rfl := List.mem_singleton.mp hj
            have hav : some (.inl (0, 12, []) : ck_AV) = some av := hav
            cases hav
            exact hr_aI (by omega) (by omega)
          · refine lv_aload_n hx hb dX12_readScene_101 rfl (lv_at hl 1 rfl) ?_
            refine hr_bp hx hb dX12_readScene_102 (by decide) (by decide) (fun z102 hz102 => ?_)
            refine lv_iload_n hx hb dX12_readScene_104 rfl (lv_at hl 0 rfl) ?_
            refine hr_add hx hb dX12_readScene_105 (by omega) (by omega) (fun z105 hz105 => ?_)
            refine hr_callV (kc := ck_tab 291) B rfl hb hl (hM.1 _ _ 0 [291] (isM (by decide +kernel)) 291 (by decide)) (hs_sets hF hM hU hun hX hHA t0 (by omega) (by omega) hp (by omega) (by omega)) ⟨hr_aR t0, hr_aI (by omega) (by omega), True.intro⟩ hW hS rfl (by decide) (by decide) (Nat.le_of_ble_eq_true rfl) dX12_readScene_106 (fun r pvv106 E106 H locs hpost hW hS => ?_)
            obtain ⟨hp, z106, rfl, hpost⟩ := hpost
            rcases hpost with ⟨q1, rfl, q3⟩ | ⟨q1, q2, C2, rfl, q3⟩
            · have ge := goes_got ge (fun j hj _ => q3 j hj)
              refine hr_ne0 (tgt := 65) hx hb dX12_readScene_109 (by decide) (fun h109 => ?_) (fun h109 => ?_)
              · omega
              refine hr_ic hx hb dX12_readScene_112 (by decide) (fun z112 hz112 => ?_)
              have hW := hr_mono (fun _ h => h.1) hW
              refine cm_zret B hb rfl ⟨by omega, by omega⟩ ⟨_, List.mem_cons_self, hr_aI (ty := ty) (by omega) (by omega), (fun q h => nomatch h), ?_⟩ hW hS dX12_readScene_113
              have s13 := hr_pv hp 13 (lo := 0) (hi := 940) rfl
              have s14 := hr_pv hp 14 (lo := 0) (hi := 4) rfl
              have s23 := hr_pv hp 23 (lo := 0) (hi := 12) rfl
              obtain ⟨ge1, ge2, ge3⟩ := ge
              refine hr_mk (n := 25) [13, 14, 24, 23] hp0 (fun j h1 h2 => ge1 j h1 (fun q => h2 (by simp only [List.mem_cons, List.not_mem_nil, or_false] at q ⊢; omega))) (by decide +kernel) (fun j hj av hav => ?_)
              rcases List.mem_cons.mp hj with rfl | hj
              · have hav : some (.inl (0, 940, [(2026, 0, 940)]) : ck_AV) = some av := hav
                cases hav
                exact hr_vd (q := 13) (by omega) (by omega) (by omega) (by omega)
              rcases List.mem_cons.mp hj with rfl | hj
              · have hav : some (.inl (0, 4, []) : ck_AV) = some av := hav
                cases hav
                exact hr_aI (by omega) (by omega)
              rcases List.mem_cons.mp hj with rfl | hj
              · have hav : some (.inl (-2147483648, 2147483647, []) : ck_AV) = some av := hav
                cases hav
                exact hr_aF
              obtain rfl := List.mem_singleton.mp hj
              have hav : some (.inl (0, 12, []) : ck_AV) = some av := hav
              cases hav
              exact hr_aI (by omega) (by omega)
            have ge := goes_tr (by have := ge.2.1; omega) ge.1 q2
            refine hr_ne0 (tgt := 65) hx hb dX12_readScene_109 (by decide) (fun h109 => ?_) (fun h109 => ?_)
            · rw [show z105.toInt.toNat = (116 + k.toInt).toNat by omega] at q3
              exact ih65 k pvv106 C2 _ _ _ (by omega) (by omega) (by omega) (by omega) ge hp hl hW hS
            · omega
  refine lv_aload_n hx hb dX12_readScene_0 rfl (lv_at hl 0 rfl) ?_
  refine hr_getR B hF hb hW (ci := 12) (j := 7) (cd := 3) t0 rfl (isF (by decide +kernel)) rfl dX12_readScene_1 (fun az1 tz1 xz1 => ?_)
  refine hr_ic hx hb dX12_readScene_4 (by decide) (fun z4 hz4 => ?_)
  refine hr_iald B hb hW tz1 rfl (by omega) (by omega) dX12_readScene_5 (fun z5 iz5 pz5 xz5 => ?_)
  have iz5 := hr_inr iz5 (a := 3) (b := 3) (lo := 0) (hi := 6) (by omega) (by omega) (by decide +kernel)
  have pz5 := congrArg Int32.toInt (pz5 22 (by rw [show z4.toInt.toNat = 3 by omega]; rfl))
  refine hr_ne0 (tgt := 15) hx hb dX12_readScene_6 (by decide) (fun h6 => ?_) (fun h6 => ?_)
  · refine lv_aload_n hx hb dX12_readScene_15 rfl (lv_at hl 0 rfl) ?_
    refine hr_getR B hF hb hW (ci := 12) (j := 7) (cd := 3) t0 rfl (isF (by decide +kernel)) rfl dX12_readScene_16 (fun az16 tz16 xz16 => ?_)
    refine hr_ic hx hb dX12_readScene_19 (by decide) (fun z19 hz19 => ?_)
    refine hr_iald B hb hW tz16 rfl (by omega) (by omega) dX12_readScene_20 (fun z20 iz20 pz20 xz20 => ?_)
    have iz20 := hr_inr iz20 (a := 4) (b := 4) (lo := 0) (hi := 12) (by omega) (by omega) (by decide +kernel)
    have pz20 := congrArg Int32.toInt (pz20 23 (by rw [show z19.toInt.toNat = 4 by omega]; rfl))
    refine lv_istore_n hx hb dX12_readScene_21 rfl hl (lv' := [(1, .int z20), (0, .ref a0)]) (by decide) rfl (fun ls hl => ?_)
    refine lv_iload_n hx hb dX12_readScene_22 rfl (lv_at hl 0 rfl) ?_
    refine hr_bp hx hb dX12_readScene_23 (by decide) (by decide) (fun z23 hz23 => ?_)
    refine hr_ne (tgt := 34) hx hb dX12_readScene_25 (by decide) (fun h25 => ?_) (fun h25 => ?_)
    · refine lv_aload_n hx hb dX12_readScene_34 rfl (lv_at hl 1 rfl) ?_
      refine cm_callV (kc := kc_195) B rfl hb hl (hM.1 _ _ 0 [195] (isM (by decide +kernel)) 195 (by decide)) (hH 195 (by decide)) (b := a0) (As := []) ⟨hr_aR t0, True.intro⟩ hp hW hS rfl (by decide) (by decide) (Nat.le_of_ble_eq_true rfl) dX12_readScene_35 (fun cs hcs r pvv35 H locs hca hW hS => ?_)
      rcases List.mem_cons.mp hcs with rfl | hcs
      · obtain ⟨hr, hq, hc⟩ := hca
        obtain rfl := hr_rv0 hr
        have hp := hr_std hp hc (by decide +kernel)
        have e35r13 := hr_pv hc 13 (lo := 0) (hi := 940) rfl
        have e35d13_2026 := hr_pd hc 13 13 (lo := 0) (hi := 940) (a := 0) (b := 940) rfl (by decide)
        have e35r14 := hr_pv hc 14 (lo := 0) (hi := 0) rfl
        have e35w24 := congrArg Int32.toInt (hr_same1 hc (j := 24) (by decide +kernel))
        have e35w23 := congrArg Int32.toInt (hr_same1 hc (j := 23) (by decide +kernel))
        have ge : goes pvv0 pvv35 := ⟨hr_sameX hc (by decide +kernel), by omega, fun h9 => by omega⟩
        refine lv_aload_n hx hb dX12_readScene_38 rfl (lv_at hl 1 rfl) ?_
        refine hr_getR B hF hb hW (ci := 12) (j := 7) (cd := 3) t0 rfl (isF (by decide +kernel)) rfl dX12_readScene_39 (fun az39 tz39 xz39 => ?_)
        refine hr_bp hx hb dX12_readScene_42 (by decide) (by decide) (fun z42 hz42 => ?_)
        refine lv_iload_n hx hb dX12_readScene_44 rfl (lv_at hl 0 rfl) ?_
        refine hr_add hx hb dX12_readScene_45 (by omega) (by omega) (fun z45 hz45 => ?_)
        refine lv_aload_n hx hb dX12_readScene_46 rfl (lv_at hl 1 rfl) ?_
        refine hr_getR B hF hb hW (ci := 12) (j := 7) (cd := 3) t0 rfl (isF (by decide +kernel)) rfl dX12_readScene_47 (fun az47 tz47 xz47 => ?_)
        refine hr_ic hx hb dX12_readScene_50 (by decide) (fun z50 hz50 => ?_)
        refine hr_iald B hb hW tz47 rfl (by omega) (by omega) dX12_readScene_51 (fun z51 iz51 pz51 xz51 => ?_)
        have iz51 := hr_inr iz51 (a := 3) (b := 3) (lo := 0) (hi := 6) (by omega) (by omega) (by decide +kernel)
        have pz51 := congrArg Int32.toInt (pz51 22 (by rw [show z50.toInt.toNat = 3 by omega]; rfl))
        refine hr_ic hx hb dX12_readScene_52 (by decide) (fun z52 hz52 => ?_)
        refine hr_sub hx hb dX12_readScene_53 (by omega) (by omega) (fun z53 hz53 => ?_)
        refine hr_iastN B hb hU hW hS tz39 rfl (by omega) (by omega) (hr_ins (a := 104) (b := 115) (lo := -2147483648) (hi := 2147483647) (by omega) (by omega) (by decide +kernel) (ck_lo _) (ck_hi _)) (hr_EA (i := z45) hX tz39 (u := 104) (v := 115) (by omega) (by omega) (by decide)) (u := 104) (v := 115) (by omega) (by omega) (by decide) dX12_readScene_54 (fun H locs hW hS => ?_)
        refine lv_aload_n hx hb dX12_readScene_55 rfl (lv_at hl 1 rfl) ?_
        refine hr_getR B hF hb hW (ci := 12) (j := 7) (cd := 3) t0 rfl (isF (by decide +kernel)) rfl dX12_readScene_56 (fun az56 tz56 xz56 => ?_)
        refine hr_bp hx hb dX12_readScene_59 (by decide) (by decide) (fun z59 hz59 => ?_)
        refine lv_iload_n hx hb dX12_readScene_61 rfl (lv_at hl 0 rfl) ?_
        refine hr_add hx hb dX12_readScene_62 (by omega) (by omega) (fun z62 hz62 => ?_)
        refine hr_ic hx hb dX12_readScene_63 (by decide) (fun z63 hz63 => ?_)
        refine hr_iastN B hb hU hW hS tz56 rfl (by omega) (by omega) (hr_ins (a := 116) (b := 127) (lo := -2147483648) (hi := 2147483647) (by omega) (by omega) (by decide +kernel) (ck_lo _) (ck_hi _)) (hr_EA (i := z62) hX tz56 (u := 116) (v := 127) (by omega) (by omega) (by decide)) (u := 116) (v := 127) (by omega) (by omega) (by decide) dX12_readScene_64 (fun H locs hW hS => ?_)
        obtain ⟨C, hW⟩ := hr_trkH hW hun (a := az56) tz56
        have b6 := b_m6 (C 35 (116 + z20.toInt).toNat)
        exact l65 7 z20 pvv35 C _ _ _ (by omega) (by omega) (by omega) (by omega) ge hp hl hW hS
      rcases List.mem_cons.mp hcs with rfl | hcs
      · obtain ⟨hr, hq, hc⟩ := hca
        obtain rfl := hr_rv0 hr
        have hp := hr_std hp hc (by decide +kernel)
        have e35r13 := hr_pv hc 13 (lo := 0) (hi := 940) rfl
        have e35d13_2026 := hr_pd hc 13 13 (lo := 0) (hi := 940) (a := 0) (b := 940) rfl (by decide)
        have e35r14 := hr_pv hc 14 (lo := 4) (hi := 4) rfl
        have e35w24 := congrArg Int32.toInt (hr_same1 hc (j := 24) (by decide +kernel))
        have e35w23 := congrArg Int32.toInt (hr_same1 hc (j := 23) (by decide +kernel))
        have ge : goes pvv0 pvv35 := ⟨hr_sameX hc (by decide +kernel), by omega, fun h9 => by omega⟩
        refine lv_aload_n hx hb dX12_readScene_38 rfl (lv_at hl 1 rfl) ?_
        refine hr_getR B hF hb hW (ci := 12) (j := 7) (cd := 3) t0 rfl (isF (by decide +kernel)) rfl dX12_readScene_39 (fun az39 tz39 xz39 => ?_)
        refine hr_bp hx hb dX12_readScene_42 (by decide) (by decide) (fun z42 hz42 => ?_)
        refine lv_iload_n hx hb dX12_readScene_44 rfl (lv_at hl 0 rfl) ?_
        refine hr_add hx hb dX12_readScene_45 (by omega) (by omega) (fun z45 hz45 => ?_)
        refine lv_aload_n hx hb dX12_readScene_46 rfl (lv_at hl 1 rfl) ?_
        refine hr_getR B hF hb hW (ci := 12) (j := 7) (cd := 3) t0 rfl (isF (by decide +kernel)) rfl dX12_readScene_47 (fun az47 tz47 xz47 => ?_)
        refine hr_ic hx hb dX12_readScene_50 (by decide) (fun z50 hz50 => ?_)
        refine hr_iald B hb hW tz47 rfl (by omega) (by omega) dX12_readScene_51 (fun z51 iz51 pz51 xz51 => ?_)
        have iz51 := hr_inr iz51 (a := 3) (b := 3) (lo := 0) (hi := 6) (by omega) (by omega) (by decide +kernel)
        have pz51 := congrArg Int32.toInt (pz51 22 (by rw [show z50.toInt.toNat = 3 by omega]; rfl))
        refine hr_ic hx hb dX12_readScene_52 (by decide) (fun z52 hz52 => ?_)
        refine hr_sub hx hb dX12_readScene_53 (by omega) (by omega) (fun z53 hz53 => ?_)
        refine hr_iastN B hb hU hW hS tz39 rfl (by omega) (by omega) (hr_ins (a := 104) (b := 115) (lo := -2147483648) (hi := 2147483647) (by omega) (by omega) (by decide +kernel) (ck_lo _) (ck_hi _)) (hr_EA (i := z45) hX tz39 (u := 104) (v := 115) (by omega) (by omega) (by decide)) (u := 104) (v := 115) (by omega) (by omega) (by decide) dX12_readScene_54 (fun H locs hW hS => ?_)
        refine lv_aload_n hx hb dX12_readScene_55 rfl (lv_at hl 1 rfl) ?_
        refine hr_getR B hF hb hW (ci := 12) (j := 7) (cd := 3) t0 rfl (isF (by decide +kernel)) rfl dX12_readScene_56 (fun az56 tz56 xz56 => ?_)
        refine hr_bp hx hb dX12_readScene_59 (by decide) (by decide) (fun z59 hz59 => ?_)
        refine lv_iload_n hx hb dX12_readScene_61 rfl (lv_at hl 0 rfl) ?_
        refine hr_add hx hb dX12_readScene_62 (by omega) (by omega) (fun z62 hz62 => ?_)
        refine hr_ic hx hb dX12_readScene_63 (by decide) (fun z63 hz63 => ?_)
        refine hr_iastN B hb hU hW hS tz56 rfl (by omega) (by omega) (hr_ins (a := 116) (b := 127) (lo := -2147483648) (hi := 2147483647) (by omega) (by omega) (by decide +kernel) (ck_lo _) (ck_hi _)) (hr_EA (i := z62) hX tz56 (u := 116) (v := 127) (by omega) (by omega) (by decide)) (u := 116) (v := 127) (by omega) (by omega) (by decide) dX12_readScene_64 (fun H locs hW hS => ?_)
        obtain ⟨C, hW⟩ := hr_trkH hW hun (a := az56) tz56
        have b6 := b_m6 (C 35 (116 + z20.toInt).toNat)
        exact l65 7 z20 pvv35 C _ _ _ (by omega) (by omega) (by omega) (by omega) ge hp hl hW hS
      rcases List.mem_cons.mp hcs with rfl | hcs
      · obtain ⟨hr, hq, hc⟩ := hca
        obtain rfl := hr_rv0 hr
        have hp := hr_std hp hc (by decide +kernel)
        have e35r13 := hr_pv hc 13 (lo := 1) (hi := 940) rfl
        have e35d13_2026 := hr_pd hc 13 13 (lo := 1) (hi := 940) (a := 1) (b := 940) rfl (by decide)
        have e35r14 := hr_pv hc 14 (lo := 3) (hi := 3) rfl
        have e35w24 := congrArg Int32.toInt (hr_same1 hc (j := 24) (by decide +kernel))
        have e35w23 := congrArg Int32.toInt (hr_same1 hc (j := 23) (by decide +kernel))
        have ge : goes pvv0 pvv35 := ⟨hr_sameX hc (by decide +kernel), by omega, fun h9 => by omega⟩
        refine lv_aload_n hx hb dX12_readScene_38 rfl (lv_at hl 1 rfl) ?_
        refine hr_getR B hF hb hW (ci := 12) (j := 7) (cd := 3) t0 rfl (isF (by decide +kernel)) rfl dX12_readScene_39 (fun az39 tz39 xz39 => ?_)
        refine hr_bp hx hb dX12_readScene_42 (by decide) (by decide) (fun z42 hz42 => ?_)
        refine lv_iload_n hx hb dX12_readScene_44 rfl (lv_at hl 0 rfl) ?_
        refine hr_add hx hb dX12_readScene_45 (by omega) (by omega) (fun z45 hz45 => ?_)
        refine lv_aload_n hx hb dX12_readScene_46 rfl (lv_at hl 1 rfl) ?_
        refine hr_getR B hF hb hW (ci := 12) (j := 7) (cd := 3) t0 rfl (isF (by decide +kernel)) rfl dX12_readScene_47 (fun az47 tz47 xz47 => ?_)
        refine hr_ic hx hb dX12_readScene_50 (by decide) (fun z50 hz50 => ?_)
        refine hr_iald B hb hW tz47 rfl (by omega) (by omega) dX12_readScene_51 (fun z51 iz51 pz51 xz51 => ?_)
        have iz51 := hr_inr iz51 (a := 3) (b := 3) (lo := 0) (hi := 6) (by omega) (by omega) (by decide +kernel)
        have pz51 := congrArg Int32.toInt (pz51 22 (by rw [show z50.toInt.toNat = 3 by omega]; rfl))
        refine hr_ic hx hb dX12_readScene_52 (by decide) (fun z52 hz52 => ?_)
        refine hr_sub hx hb dX12_readScene_53 (by omega) (by omega) (fun z53 hz53 => ?_)
        refine hr_iastN B hb hU hW hS tz39 rfl (by omega) (by omega) (hr_ins (a := 104) (b := 115) (lo := -2147483648) (hi := 2147483647) (by omega) (by omega) (by decide +kernel) (ck_lo _) (ck_hi _)) (hr_EA (i := z45) hX tz39 (u := 104) (v := 115) (by omega) (by omega) (by decide)) (u := 104) (v := 115) (by omega) (by omega) (by decide) dX12_readScene_54 (fun H locs hW hS => ?_)
        refine lv_aload_n hx hb dX12_readScene_55 rfl (lv_at hl 1 rfl) ?_
        refine hr_getR B hF hb hW (ci := 12) (j := 7) (cd := 3) t0 rfl (isF (by decide +kernel)) rfl dX12_readScene_56 (fun az56 tz56 xz56 => ?_)
        refine hr_bp hx hb dX12_readScene_59 (by decide) (by decide) (fun z59 hz59 => ?_)
        refine lv_iload_n hx hb dX12_readScene_61 rfl (lv_at hl 0 rfl) ?_
        refine hr_add hx hb dX12_readScene_62 (by omega) (by omega) (fun z62 hz62 => ?_)
        refine hr_ic hx hb dX12_readScene_63 (by decide) (fun z63 hz63 => ?_)
        refine hr_iastN B hb hU hW hS tz56 rfl (by omega) (by omega) (hr_ins (a := 116) (b := 127) (lo := -2147483648) (hi := 2147483647) (by omega) (by omega) (by decide +kernel) (ck_lo _) (ck_hi _)) (hr_EA (i := z62) hX tz56 (u := 116) (v := 127) (by omega) (by omega) (by decide)) (u := 116) (v := 127) (by omega) (by omega) (by decide) dX12_readScene_64 (fun H locs hW hS => ?_)
        obtain ⟨C, hW⟩ := hr_trkH hW hun (a := az56) tz56
        have b6 := b_m6 (C 35 (116 + z20.toInt).toNat)
        exact l65 7 z20 pvv35 C _ _ _ (by omega) (by omega) (by omega) (by omega) ge hp hl hW hS
      obtain rfl := List.mem_singleton.mp hcs
      obtain ⟨hr, hq, hc⟩ := hca
      obtain rfl := hr_rv0 hr
      have hp := hr_std hp hc (by decide +kernel)
      have e35r13 := hr_pv hc 13 (lo := 0) (hi := 940) rfl
      have e35d13_2026 := hr_pd hc 13 13 (lo := 0) (hi := 940) (a := 0) (b := 940) rfl (by decide)
      have e35r14 := hr_pv hc 14 (lo := 1) (hi := 2) rfl
      have e35w24 := congrArg Int32.toInt (hr_same1 hc (j := 24) (by decide +kernel))
      have e35w23 := congrArg Int32.toInt (hr_same1 hc (j := 23) (by decide +kernel))
      have ge : goes pvv0 pvv35 := ⟨hr_sameX hc (by decide +kernel), by omega, fun h9 => by omega⟩
      refine lv_aload_n hx hb dX12_readScene_38 rfl (lv_at hl 1 rfl) ?_
      refine hr_getR B hF hb hW (ci := 12) (j := 7) (cd := 3) t0 rfl (isF (by decide +kernel)) rfl dX12_readScene_39 (fun az39 tz39 xz39 => ?_)
      refine hr_bp hx hb dX12_readScene_42 (by decide) (by decide) (fun z42 hz42 => ?_)
      refine lv_iload_n hx hb dX12_readScene_44 rfl (lv_at hl 0 rfl) ?_
      refine hr_add hx hb dX12_readScene_45 (by omega) (by omega) (fun z45 hz45 => ?_)
      refine lv_aload_n hx hb dX12_readScene_46 rfl (lv_at hl 1 rfl) ?_
      refine hr_getR B hF hb hW (ci := 12) (j := 7) (cd := 3) t0 rfl (isF (by decide +kernel)) rfl dX12_readScene_47 (fun az47 tz47 xz47 => ?_)
      refine hr_ic hx hb dX12_readScene_50 (by decide) (fun z50 hz50 => ?_)
      refine hr_iald B hb hW tz47 rfl (by omega) (by omega) dX12_readScene_51 (fun z51 iz51 pz51 xz51 => ?_)
      have iz51 := hr_inr iz51 (a := 3) (b := 3) (lo := 0) (hi := 6) (by omega) (by omega) (by decide +kernel)
      have pz51 := congrArg Int32.toInt (pz51 22 (by rw [show z50.toInt.toNat = 3 by omega]; rfl))
      refine hr_ic hx hb dX12_readScene_52 (by decide) (fun z52 hz52 => ?_)
      refine hr_sub hx hb dX12_readScene_53 (by omega) (by omega) (fun z53 hz53 => ?_)
      refine hr_iastN B hb hU hW hS tz39 rfl (by omega) (by omega) (hr_ins (a := 104) (b := 115) (lo := -2147483648) (hi := 2147483647) (by omega) (by omega) (by decide +kernel) (ck_lo _) (ck_hi _)) (hr_EA (i := z45) hX tz39 (u := 104) (v := 115) (by omega) (by omega) (by decide)) (u := 104) (v := 115) (by omega) (by omega) (by decide) dX12_readScene_54 (fun H locs hW hS => ?_)
      refine lv_aload_n hx hb dX12_readScene_55 rfl (lv_at hl 1 rfl) ?_
      refine hr_getR B hF hb hW (ci := 12) (j := 7) (cd := 3) t0 rfl (isF (by decide +kernel)) rfl dX12_readScene_56 (fun az56 tz56 xz56 => ?_)
      refine hr_bp hx hb dX12_readScene_59 (by decide) (by decide) (fun z59 hz59 => ?_)
      refine lv_iload_n hx hb dX12_readScene_61 rfl (lv_at hl 0 rfl) ?_
      refine hr_add hx hb dX12_readScene_62 (by omega) (by omega) (fun z62 hz62 => ?_)
      refine hr_ic hx hb dX12_readScene_63 (by decide) (fun z63 hz63 => ?_)
      refine hr_iastN B hb hU hW hS tz56 rfl (by omega) (by omega) (hr_ins (a := 116) (b := 127) (lo := -2147483648) (hi := 2147483647) (by omega) (by omega) (by decide +kernel) (ck_lo _) (ck_hi _)) (hr_EA (i := z62) hX tz56 (u := 116) (v := 127) (by omega) (by omega) (by decide)) (u := 116) (v := 127) (by omega) (by omega) (by decide) dX12_readScene_64 (fun H locs hW hS => ?_)
      obtain ⟨C, hW⟩ := hr_trkH hW hun (a := az56) tz56
      have b6 := b_m6 (C 35 (116 + z20.toInt).toNat)
      exact l65 7 z20 pvv35 C _ _ _ (by omega) (by omega) (by omega) (by omega) ge hp hl hW hS
    · refine lv_aload_n hx hb dX12_readScene_28 rfl (lv_at hl 1 rfl) ?_
      refine hr_ic hx hb dX12_readScene_29 (by decide) (fun z29 hz29 => ?_)
      refine cm_callV (kc := kc_191) B rfl hb hl (hM.1 _ _ 0 [191] (isM (by decide +kernel)) 191 (by decide)) (hH 191 (by decide)) (b := a0) (As := [.int z29]) ⟨hr_aR t0, hr_aI (by omega) (by omega), True.intro⟩ hp hW hS rfl (by decide) (by decide) (Nat.le_of_ble_eq_true rfl) dX12_readScene_30 (fun cs hcs r pvv30 H locs hca hW hS => ?_)
      obtain rfl := List.mem_singleton.mp hcs
      obtain ⟨hr, hq, hc⟩ := hca
      obtain ⟨z30, rfl, lz30, uz30⟩ := hr_rvI hr
      have hW := hr_pvE (hr_sameA hc rfl (by decide +kernel)) hW
      refine cm_zret B hb rfl ⟨by omega, by omega⟩ ⟨_, List.mem_cons_self, hr_aI (ty := ty) (by omega) (by omega), (fun q h => nomatch h), ?_⟩ hW hS dX12_readScene_33
      refine hr_mk (n := 25) [13, 14, 24, 23] hp0 (fun _ _ _ => rfl) (by decide +kernel) (fun j hj av hav => ?_)
      rcases List.mem_cons.mp hj with rfl | hj
      · have hav : some (.inl (0, 940, [(2026, 0, 940)]) : ck_AV) = some av := hav
        cases hav
        exact hr_vd (q := 13) (by omega) (by omega) (by omega) (by omega)
      rcases List.mem_cons.mp hj with rfl | hj
      · have hav : some (.inl (0, 4, []) : ck_AV) = some av := hav
        cases hav
        exact hr_aI (by omega) (by omega)
      rcases List.mem_cons.mp hj with rfl | hj
      · have hav : some (.inl (-2147483648, 2147483647, []) : ck_AV) = some av := hav
        cases hav
        exact hr_aF
      obtain rfl := List.mem_singleton.mp hj
      have hav : some (.inl (0, 12, []) : ck_AV) = some av := hav
      cases hav
      exact hr_aI (by omega) (by omega)
  · refine lv_aload_n hx hb dX12_readScene_9 rfl (lv_at hl 0 rfl) ?_
    refine hr_ic hx hb dX12_readScene_10 (by decide) (fun z10 hz10 => ?_)
    refine cm_callV (kc := kc_191) B rfl hb hl (hM.1 _ _ 0 [191] (isM (by decide +kernel)) 191 (by decide)) (hH 191 (by decide)) (b := a0) (As := [.int z10]) ⟨hr_aR t0, hr_aI (by omega) (by omega), True.intro⟩ hp hW hS rfl (by decide) (by decide) (Nat.le_of_ble_eq_true rfl) dX12_readScene_11 (fun cs hcs r pvv11 H locs hca hW hS => ?_)
    obtain rfl := List.mem_singleton.mp hcs
    obtain ⟨hr, hq, hc⟩ := hca
    obtain ⟨z11, rfl, lz11, uz11⟩ := hr_rvI hr
    have hW := hr_pvE (hr_sameA hc rfl (by decide +kernel)) hW
    refine cm_zret B hb rfl ⟨by omega, by omega⟩ ⟨_, List.mem_cons_self, hr_aI (ty := ty) (by omega) (by omega), (fun q h => nomatch h), ?_⟩ hW hS dX12_readScene_14
    refine hr_mk (n := 25) [13, 14, 24, 23] hp0 (fun _ _ _ => rfl) (by decide +kernel) (fun j hj av hav => ?_)
    rcases List.mem_cons.mp hj with rfl | hj
    · have hav : some (.inl (0, 940, [(2026, 0, 940)]) : ck_AV) = some av := hav
      cases hav
      exact hr_vd (q := 13) (by omega) (by omega) (by omega) (by omega)
    rcases List.mem_cons.mp hj with rfl | hj
    · have hav : some (.inl (0, 4, []) : ck_AV) = some av := hav
      cases hav
      exact hr_aI (by omega) (by omega)
    rcases List.mem_cons.mp hj with rfl | hj
    · have hav : some (.inl (-2147483648, 2147483647, []) : ck_AV) = some av := hav
      cases hav
      exact hr_aF
    obtain rfl := List.mem_singleton.mp hj
    have hav : some (.inl (0, 12, []) : ck_AV) = some av := hav
    cases hav
    exact hr_aI (by omega) (by omega)
end H25
end
section
/-! BY HAND, 8: castsBy. What is in a world of single sorts stands in a table; the casts are gone through by a falling number. -/
def ck_intB (tg : List ck_TD) (pq : Nat → List (Nat × Nat)) (ts : List Nat) : Bool := ts.all (fun t => match tg[t]? with
  | some (.inl o) => (pq t).all (fun q => (List.range (q.2 + 1)).all (fun j => decide (j < q.1) || (match o.2[j]? with
    | some (.inl _) => true
    | _ => false)))
  | some (.inr r) => decide (r.1 < 3)
  | none => false)
section H26
variable {l : Launch} {D : va_G} {cys : Nat → ClassId} {ty : Nat → Option Nat} {tg : List ck_TD} {pvT : List (Nat × Nat)} {Ex : va_W → Prop} {pvv : Nat → Int32} {H : Heap}
theorem hr_trkG {ts : List Nat} (hW : ck_Wo D cys ty tg pvT Ex pvv H) (hun : ∀ t, t ∈ ts → ∀ a a', ty a = some t → ty a' = some t → a' = a) (pq : Nat → List (Nat × Nat)) (hq : ∀ t, pq t ≠ [] → t ∈ ts) (hi : ck_intB tg pq ts = true) : ∃ C : Nat → Nat → Int32, ck_Wo D cys ty tg pvT (fun ws => Ex ws ∧ tk ty pq C ws) pvv H := by
  obtain ⟨ws, h1, h2, h3, h4, h5⟩ := hW
  have key : ∀ t j : Nat, ∃ x : Int32, ∀ (a q : Nat) (en : va_E), ty a = some t → ws[q]? = some (a, en) → ck_pr (pq t) j → ck_has en j x := by
    intro t j
    by_cases hj : ck_pr (pq t) j
    · have ht : t ∈ ts := hq t (fun e => by obtain ⟨r, hr, -⟩ := hj; rw [e] at hr; cases hr)
      by_cases hex : ∃ a, ty a = some t
      · obtain ⟨a, ha⟩ := hex
        obtain ⟨q, en, td, g1, g2, g3⟩ := h3 a t ha
        have hb := List.all_eq_true.mp hi t ht
        rw [g2] at hb
        have huq : ∀ (a' q' : Nat) (en' : va_E), ty a' = some t → ws[q']? = some (a', en') → en' = en := by
          intro a' q' en' ha' hq'
          obtain rfl := hun t ht _ _ ha ha'
          exact (ck_D1 h2 g1 hq').2
        match td, g3, hb with
        | .inl o, g3, hb =>
          obtain ⟨fs, rfl, w1, w2⟩ := g3
          obtain ⟨r, hr, r1, r2⟩ := hj
          have hc := List.all_eq_true.mp (List.all_eq_true.mp hb r hr) j (List.mem_range.mpr (by omega))
          rw [Bool.or_eq_true] at hc
          rcases hc with hc | hc
          · have := of_decide_eq_true hc; omega
          · split at hc
            · next ft hft =>
              obtain ⟨v, k1, x, rfl, -⟩ := w2 j _ hft
              exact ⟨x, fun a' q' en' ha' hq' _ => by rw [huq a' q' en' ha' hq']; exact k1⟩
            · cases hc
        | .inr r, g3, hb =>
          have hb := of_decide_eq_true hb
          rcases g3 with ⟨-, f, rfl, -⟩ | ⟨h, -⟩ | ⟨h, -⟩
          · exact ⟨f j, fun a' q' en' ha' hq' _ => by rw [huq a' q' en' ha' hq']; rfl⟩
          · omega
          · omega
      · exact ⟨0, fun a _ _ ha _ _ => absurd ⟨a, ha⟩ hex⟩
    · exact ⟨0, fun _ _ _ _ _ h => absurd h hj⟩
  refine ⟨fun t j => Classical.choose (key t j), ws, h1, h2, h3, h4, h5, ?_⟩
  intro a t q en ha hqq j hj
  exact Classical.choose_spec (key t j) a q en ha hqq hj
end H26
/-! the falling number -/
def mu_w (d : Nat) : Int := 10 ^ (5 - d)
def mu (f : Nat → Int) (M : Int) : Nat → Int
  | 0 => 0
  | d + 1 => mu f M d + mu_w d * (M - f d)
theorem mu_w1 (d : Nat) : 1 ≤ mu_w d := by
  unfold mu_w
  exact_mod_cast Nat.one_le_pow _ 10 (by omega)
theorem mu_w10 {d : Nat} (h : d < 5) : mu_w d = 10 * mu_w (d + 1) := by
  unfold mu_w
  rw [show 5 - d = (5 - (d + 1)) + 1 by omega, Int.pow_succ]
  omega
theorem mu_co {f g : Nat → Int} {M : Int} : ∀ {d : Nat}, (∀ k, k < d → g k = f k) → mu g M d = mu f M d
  | 0, _ => rfl
  | d + 1, h => by
    unfold mu
    rw [mu_co (fun k hk => h k (by omega)), h d (by omega)]
theorem mu_nn {f : Nat → Int} {M : Int} : ∀ {d : Nat}, (∀ k, k < d → f k ≤ M) → 0 ≤ mu f M d
  | 0, _ => Int.le_refl _
  | d + 1, h => by
    show 0 ≤ mu f M d + mu_w d * (M - f d)
    have h1 := mu_nn (f := f) (M := M) (d := d) (fun k hk => h k (by omega))
    have h2 := h d (by omega)
    have h3 := mu_w1 d
    have h4 : 0 ≤ mu_w d * (M - f d) := Int.mul_nonneg (by omega) (by omega)
    omega
/-- one more at the last, which stays -/
theorem mu_up {f g : Nat → Int} {M : Int} {d : Nat} (h : ∀ k, k < d → g k = f k) (hd : g d = f d + 1) : mu g M (d + 1) < mu f M (d + 1) := by
  show mu g M d + mu_w d * (M - g d) < mu f M d + mu_w d * (M - f d)
  rw [mu_co h, hd]
  have h3 := mu_w1 d
  have e : mu_w d * (M - (f d + 1)) = mu_w d * (M - f d) - mu_w d := by rw [show M - (f d + 1) = (M - f d) - 1 by omega, Int.mul_sub, Int.mul_one]
  omega
/-- the last goes -/
theorem mu_pop {f g : Nat → Int} {M : Int} {d : Nat} (h : ∀ k, k < d → g k = f k) (hd : f d < M) : mu g M d < mu f M (d + 1) := by
  show mu g M d < mu f M d + mu_w d * (M - f d)
  rw [mu_co h]
  have h3 := mu_w1 d
  have e : 1 ≤ mu_w d * (M - f d) := by
    have := Int.mul_le_mul_of_nonneg_left (show (1 : Int) ≤ M - f d by omega) (show 0 ≤ mu_w d by omega)
    omega
  omega
/-- one more at the last, and a new one behind it -/
theorem mu_push {f g : Nat → Int} {M : Int} {d : Nat} (h : ∀ k, k < d → g k = f k) (hd : g d = f d + 1) (h5 : d < 5) (hg : g (d + 1) = -1) (hM : M ≤ 8) : mu g M (d + 2) < mu f M (d + 1) := by
  have e1 : mu g M (d + 2) = mu g M (d + 1) + mu_w (d + 1) * (M - g (d + 1)) := rfl
  have e2 : mu g M (d + 1) = mu f M d + mu_w d * (M - (f d + 1)) := by
    show mu g M d + mu_w d * (M - g d) = _
    rw [mu_co h, hd]
  have e3 : mu f M (d + 1) = mu f M d + mu_w d * (M - f d) := rfl
  have e : mu_w d * (M - (f d + 1)) = mu_w d * (M - f d) - mu_w d := by rw [show M - (f d + 1) = (M - f d) - 1 by omega, Int.mul_sub, Int.mul_one]
  rw [e1, e2, e3, e, hg, mu_w10 h5]
  have h3 := mu_w1 (d + 1)
  have h4 := Int.mul_le_mul_of_nonneg_left (show M - -1 ≤ 9 by omega) (show 0 ≤ mu_w (d + 1) by omega)
  omega
def pqC (t : Nat) : List (Nat × Nat) := if t = 39 then [(0, 5)] else if t = 34 then [(2, 2)] else []
theorem pqC_A : ∀ t j, ck_pr (pqC t) j → ck_pr (ck_protA t) j := by
  intro t j h
  unfold pqC at h
  split at h
  · next e => subst e; exact h
  · split at h
    · next e =>
      subst e
      obtain ⟨q, hq, h1, h2⟩ := h
      obtain rfl := List.mem_singleton.mp hq
      exact ⟨(0, 139), by decide, by omega, by dsimp only at h1 h2 ⊢; omega⟩
    · obtain ⟨q, hq, -⟩ := h; cases hq
theorem pqC_u : ∀ t, pqC t ≠ [] → t ∈ [39, 34] := by
  intro t h
  unfold pqC at h
  split at h
  · next e => subst e; decide
  · split at h
    · next e => subst e; decide
    · exact absurd rfl h
theorem pr1A : ∀ t j, ck_pr (ck_prot1 t) j → ck_pr (ck_protA t) j := by
  intro t j h
  unfold ck_prot1 at h
  split at h
  · obtain ⟨q, hq, -⟩ := h; cases hq
  · exact pr0A t j h
theorem pr1Al : ∀ t, ck_protA t = [] → ck_prot1 t = [] := by
  intro t h
  unfold ck_prot1
  split
  · rfl
  · exact pr0Al t h
section H26b
variable {l : Launch} {D : va_G} {cys : Nat → ClassId} {ty : Nat → Option Nat} {Ex : va_W → Prop}
theorem dX12_castsBy_0 : decode cX12_castsBy 0 = .ok (.aload_n 0, 1) := by decide +kernel
theorem dX12_castsBy_1 : decode cX12_castsBy 1 = .ok (.iconst 0, 1) := by decide +kernel
theorem dX12_castsBy_2 : decode cX12_castsBy 2 = .ok (.putfield 329, 3) := by decide +kernel
theorem dX12_castsBy_5 : decode cX12_castsBy 5 = .ok (.aload_n 0, 1) := by decide +kernel
theorem dX12_castsBy_6 : decode cX12_castsBy 6 = .ok (.iconst 0, 1) := by decide +kernel
theorem dX12_castsBy_7 : decode cX12_castsBy 7 = .ok (.putfield 341, 3) := by decide +kernel
theorem dX12_castsBy_10 : decode cX12_castsBy 10 = .ok (.iconst 0, 1) := by decide +kernel
theorem dX12_castsBy_11 : decode cX12_castsBy 11 = .ok (.istore_n 3, 1) := by decide +kernel
theorem dX12_castsBy_12 : decode cX12_castsBy 12 = .ok (.iconst 0, 1) := by decide +kernel
theorem dX12_castsBy_13 : decode cX12_castsBy 13 = .ok (.istore 4, 2) := by decide +kernel
theorem dX12_castsBy_15 : decode cX12_castsBy 15 = .ok (.iload 4, 2) := by decide +kernel
theorem dX12_castsBy_17 : decode cX12_castsBy 17 = .ok (.aload_n 0, 1) := by decide +kernel
theorem dX12_castsBy_18 : decode cX12_castsBy 18 = .ok (.getfield 33, 3) := by decide +kernel
theorem dX12_castsBy_21 : decode cX12_castsBy 21 = .ok (.iconst 0, 1) := by decide +kernel
theorem dX12_castsBy_22 : decode cX12_castsBy 22 = .ok (.iaload, 1) := by decide +kernel
theorem dX12_castsBy_23 : decode cX12_castsBy 23 = .ok (.if_icmp .ge 50, 3) := by decide +kernel
theorem dX12_castsBy_26 : decode cX12_castsBy 26 = .ok (.aload_n 0, 1) := by decide +kernel
theorem dX12_castsBy_27 : decode cX12_castsBy 27 = .ok (.invokevirtual 280, 3) := by decide +kernel
theorem dX12_castsBy_30 : decode cX12_castsBy 30 = .ok (.ifCond .ne 43, 3) := by decide +kernel
theorem dX12_castsBy_33 : decode cX12_castsBy 33 = .ok (.aload_n 0, 1) := by decide +kernel
theorem dX12_castsBy_34 : decode cX12_castsBy 34 = .ok (.aload_n 0, 1) := by decide +kernel
theorem dX12_castsBy_35 : decode cX12_castsBy 35 = .ok (.getfield 33, 3) := by decide +kernel
theorem dX12_castsBy_38 : decode cX12_castsBy 38 = .ok (.sipush 140, 3) := by decide +kernel
theorem dX12_castsBy_41 : decode cX12_castsBy 41 = .ok (.iaload, 1) := by decide +kernel
theorem dX12_castsBy_42 : decode cX12_castsBy 42 = .ok (.invokevirtual 260, 3) := by decide +kernel
theorem dX12_castsBy_45 : decode cX12_castsBy 45 = .ok (.iload 4, 2) := by decide +kernel
theorem dX12_castsBy_47 : decode cX12_castsBy 47 = .ok (.invokestatic 217, 3) := by decide +kernel
theorem dX12_castsBy_50 : decode cX12_castsBy 50 = .ok (.ifCond .ne 6, 3) := by decide +kernel
theorem dX12_castsBy_53 : decode cX12_castsBy 53 = .ok (.goto 14, 3) := by decide +kernel
theorem dX12_castsBy_56 : decode cX12_castsBy 56 = .ok (.aload_n 0, 1) := by decide +kernel
theorem dX12_castsBy_57 : decode cX12_castsBy 57 = .ok (.getfield 56, 3) := by decide +kernel
theorem dX12_castsBy_60 : decode cX12_castsBy 60 = .ok (.iload_n 3, 1) := by decide +kernel
theorem dX12_castsBy_61 : decode cX12_castsBy 61 = .ok (.iload 4, 2) := by decide +kernel
theorem dX12_castsBy_63 : decode cX12_castsBy 63 = .ok (.iastore, 1) := by decide +kernel
theorem dX12_castsBy_64 : decode cX12_castsBy 64 = .ok (.iinc 3 1, 3) := by decide +kernel
theorem dX12_castsBy_67 : decode cX12_castsBy 67 = .ok (.iinc 4 1, 3) := by decide +kernel
theorem dX12_castsBy_70 : decode cX12_castsBy 70 = .ok (.goto (-55), 3) := by decide +kernel
theorem dX12_castsBy_73 : decode cX12_castsBy 73 = .ok (.aload_n 0, 1) := by decide +kernel
theorem dX12_castsBy_74 : decode cX12_castsBy 74 = .ok (.invokevirtual 280, 3) := by decide +kernel
theorem dX12_castsBy_77 : decode cX12_castsBy 77 = .ok (.ifCond .eq 4, 3) := by decide +kernel
theorem dX12_castsBy_80 : decode cX12_castsBy 80 = .ok (.return_, 1) := by decide +kernel
theorem dX12_castsBy_81 : decode cX12_castsBy 81 = .ok (.iload_n 3, 1) := by decide +kernel
theorem dX12_castsBy_82 : decode cX12_castsBy 82 = .ok (.ifCond .ne 10, 3) := by decide +kernel
theorem dX12_castsBy_85 : decode cX12_castsBy 85 = .ok (.aload_n 0, 1) := by decide +kernel
theorem dX12_castsBy_86 : decode cX12_castsBy 86 = .ok (.iconst 0, 1) := by decide +kernel
theorem dX12_castsBy_87 : decode cX12_castsBy 87 = .ok (.iload_n 2, 1) := by decide +kernel
theorem dX12_castsBy_88 : decode cX12_castsBy 88 = .ok (.invokevirtual 347, 3) := by decide +kernel
theorem dX12_castsBy_91 : decode cX12_castsBy 91 = .ok (.return_, 1) := by decide +kernel
theorem dX12_castsBy_92 : decode cX12_castsBy 92 = .ok (.iconst 0, 1) := by decide +kernel
theorem dX12_castsBy_93 : decode cX12_castsBy 93 = .ok (.istore 4, 2) := by decide +kernel
theorem dX12_castsBy_95 : decode cX12_castsBy 95 = .ok (.aload_n 0, 1) := by decide +kernel
theorem dX12_castsBy_96 : decode cX12_castsBy 96 = .ok (.getfield 59, 3) := by decide +kernel
theorem dX12_castsBy_99 : decode cX12_castsBy 99 = .ok (.iconst 0, 1) := by decide +kernel
theorem dX12_castsBy_100 : decode cX12_castsBy 100 = .ok (.iconst (-1), 1) := by decide +kernel
theorem dX12_castsBy_101 : decode cX12_castsBy 101 = .ok (.iastore, 1) := by decide +kernel
theorem dX12_castsBy_102 : decode cX12_castsBy 102 = .ok (.iload 4, 2) := by decide +kernel
theorem dX12_castsBy_104 : decode cX12_castsBy 104 = .ok (.ifCond .lt 77, 3) := by decide +kernel
theorem dX12_castsBy_107 : decode cX12_castsBy 107 = .ok (.aload_n 0, 1) := by decide +kernel
theorem dX12_castsBy_108 : decode cX12_castsBy 108 = .ok (.getfield 59, 3) := by decide +kernel
theorem dX12_castsBy_111 : decode cX12_castsBy 111 = .ok (.iload 4, 2) := by decide +kernel
theorem dX12_castsBy_113 : decode cX12_castsBy 113 = .ok (.dup2, 1) := by decide +kernel
theorem dX12_castsBy_114 : decode cX12_castsBy 114 = .ok (.iaload, 1) := by decide +kernel
theorem dX12_castsBy_115 : decode cX12_castsBy 115 = .ok (.iconst 1, 1) := by decide +kernel
theorem dX12_castsBy_116 : decode cX12_castsBy 116 = .ok (.iadd, 1) := by decide +kernel
theorem dX12_castsBy_117 : decode cX12_castsBy 117 = .ok (.iastore, 1) := by decide +kernel
theorem dX12_castsBy_118 : decode cX12_castsBy 118 = .ok (.aload_n 0, 1) := by decide +kernel
theorem dX12_castsBy_119 : decode cX12_castsBy 119 = .ok (.getfield 59, 3) := by decide +kernel
theorem dX12_castsBy_122 : decode cX12_castsBy 122 = .ok (.iload 4, 2) := by decide +kernel
theorem dX12_castsBy_124 : decode cX12_castsBy 124 = .ok (.iaload, 1) := by decide +kernel
theorem dX12_castsBy_125 : decode cX12_castsBy 125 = .ok (.aload_n 0, 1) := by decide +kernel
theorem dX12_castsBy_126 : decode cX12_castsBy 126 = .ok (.getfield 33, 3) := by decide +kernel
theorem dX12_castsBy_129 : decode cX12_castsBy 129 = .ok (.iconst 2, 1) := by decide +kernel
theorem dX12_castsBy_130 : decode cX12_castsBy 130 = .ok (.iaload, 1) := by decide +kernel
theorem dX12_castsBy_131 : decode cX12_castsBy 131 = .ok (.if_icmp .ne 9, 3) := by decide +kernel
theorem dX12_castsBy_134 : decode cX12_castsBy 134 = .ok (.iinc 4 (-1), 3) := by decide +kernel
theorem dX12_castsBy_137 : decode cX12_castsBy 137 = .ok (.goto (-35), 3) := by decide +kernel
theorem dX12_castsBy_140 : decode cX12_castsBy 140 = .ok (.aload_n 0, 1) := by decide +kernel
theorem dX12_castsBy_141 : decode cX12_castsBy 141 = .ok (.iload 4, 2) := by decide +kernel
theorem dX12_castsBy_143 : decode cX12_castsBy 143 = .ok (.iload_n 1, 1) := by decide +kernel
theorem dX12_castsBy_144 : decode cX12_castsBy 144 = .ok (.invokevirtual 350, 3) := by decide +kernel
theorem dX12_castsBy_147 : decode cX12_castsBy 147 = .ok (.ifCond .eq (-45), 3) := by decide +kernel
theorem dX12_castsBy_150 : decode cX12_castsBy 150 = .ok (.iload 4, 2) := by decide +kernel
theorem dX12_castsBy_152 : decode cX12_castsBy 152 = .ok (.iload_n 3, 1) := by decide +kernel
theorem dX12_castsBy_153 : decode cX12_castsBy 153 = .ok (.iconst 1, 1) := by decide +kernel
theorem dX12_castsBy_154 : decode cX12_castsBy 154 = .ok (.isub, 1) := by decide +kernel
theorem dX12_castsBy_155 : decode cX12_castsBy 155 = .ok (.if_icmp .ne 12, 3) := by decide +kernel
theorem dX12_castsBy_158 : decode cX12_castsBy 158 = .ok (.aload_n 0, 1) := by decide +kernel
theorem dX12_castsBy_159 : decode cX12_castsBy 159 = .ok (.iload_n 3, 1) := by decide +kernel
theorem dX12_castsBy_160 : decode cX12_castsBy 160 = .ok (.iload_n 2, 1) := by decide +kernel
theorem dX12_castsBy_161 : decode cX12_castsBy 161 = .ok (.invokevirtual 347, 3) := by decide +kernel
theorem dX12_castsBy_164 : decode cX12_castsBy 164 = .ok (.goto (-62), 3) := by decide +kernel
theorem dX12_castsBy_167 : decode cX12_castsBy 167 = .ok (.iinc 4 1, 3) := by decide +kernel
theorem dX12_castsBy_170 : decode cX12_castsBy 170 = .ok (.aload_n 0, 1) := by decide +kernel
theorem dX12_castsBy_171 : decode cX12_castsBy 171 = .ok (.getfield 59, 3) := by decide +kernel
theorem dX12_castsBy_174 : decode cX12_castsBy 174 = .ok (.iload 4, 2) := by decide +kernel
theorem dX12_castsBy_176 : decode cX12_castsBy 176 = .ok (.iconst (-1), 1) := by decide +kernel
theorem dX12_castsBy_177 : decode cX12_castsBy 177 = .ok (.iastore, 1) := by decide +kernel
theorem dX12_castsBy_178 : decode cX12_castsBy 178 = .ok (.goto (-76), 3) := by decide +kernel
theorem dX12_castsBy_181 : decode cX12_castsBy 181 = .ok (.return_, 1) := by decide +kernel
theorem hr_tkR {pvv : Nat → Int32} {H : Heap} {E : va_W → Prop} {pq : Nat → List (Nat × Nat)} {C : Nat → Nat → Int32} (hW : ck_Wo D cys ty ck_tags ck_pvs0 E pvv H) (hE : ∀ ws, E ws → tk ty pq C ws) {a t ci j t' n et i : Nat} {fts : List ck_AV} {sg : List (Nat × Int × Int)} {lo hi : Int} (hta : ty a = some t) (htd : ck_tags[t]? = some (.inl (ci, fts))) (hft : fts[j]? = some (.inr (.inl t'))) (htd' : ck_tags[t']? = some (.inr (0, n, sg, et))) (hin : i < n) (hs : ck_seg sg i = (lo, hi)) (hp : ck_pr (pq t') i) : lo ≤ (C t' i).toInt ∧ (C t' i).toInt ≤ hi := by
  obtain ⟨ws, h1, h2, h3, h4, h5⟩ := hW
  obtain ⟨q, fs, g1, g2, g3⟩ := cm_obj h3 hta htd
  obtain ⟨v, k1, b, rfl, tb⟩ := g3 j _ hft
  obtain ⟨q', f, f1, f2⟩ := ck_arrI h3 tb htd' (by decide)
  have e : f i = C t' i := hE ws h5 b t' q' _ tb f1 i hp
  have := f2 i hin
  unfold ck_in at this
  rw [hs, e] at this
  exact this
set_option maxRecDepth 100000 in
set_option maxHeartbeats 4000000 in
theorem hk_12_castsBy (hF : ck_LKf ck_LK) (hM : ck_LKm ck_tags ck_LK ck_tab) (hU : ck_uq ty ck_pvs0) (hun : ck_un ty) (hX : ck_ExP ty ck_prot1 Ex) (hHA : ∀ Ex', ck_ExP ty ck_protA Ex' → ∀ j, j < 258 → ck_Holds l D cys ty ck_tags ck_pvs0 Ex' (ck_tab j)) (hH : ∀ j, j < 295 → ck_Holds l D cys ty ck_tags ck_pvs0 Ex (ck_tab j)) : ck_Holds l D cys ty ck_tags ck_pvs0 Ex (ck_tab 295) := by
  refine cm_enter (by decide +kernel) (by decide +kernel) (by decide +kernel) ?_
  intro vs pvv0 p e s m below meth c ls ha hp B hl hW
  have hx := B.1
  have hb : c.code = cX12_castsBy := B.2.1
  have hI := pv_inj
  have hS : va_S (ck_own ty) s.heap s.heap [] := va_S.rf
  obtain ⟨_, _, _, rfl, ⟨a0, rfl, t0⟩, ⟨x1, rfl, l1, u1, -⟩, ⟨x2, rfl, l2, u2, -⟩⟩ := cm_a3 ha
  dsimp only at l1 u1
  dsimp only at l2 u2
  have hl : lv_has ls 5 [(0, .ref a0), (1, .int x1), (2, .int x2)] := hl
  have hp0 := hp
  have hXA := ExP_mono (prot' := ck_protA) pr1A pr1Al hX
  have hX2 : ∀ C, ck_ExP ty ck_protA (fun ws => Ex ws ∧ tk ty pqC C ws) := fun C => ExP_and hXA (tk_ExP pqC_A)
  have l73 : ∀ (n73 : Nat) (k : Int32) (nn : Int32) (ls : Array Slot) (H : Heap) (locs : List Loc), (0 : Int) < n73 → (0 ≤ nn.toInt) → (nn.toInt ≤ 6) → lv_has ls 5 [(4, .int k), (3, .int nn), (0, .ref a0), (1, .int x1), (2, .int x2)] → ck_Wo D cys ty ck_tags ck_pvs0 Ex pvv0 H → va_S (ck_own ty) s.heap H locs → W p l e (ck_rm (ck_tab 295)) s m [Value.ref a0, Value.int x1, Value.int x2].toArray below meth c H locs 0 0 (MQ below (ck_Qc D cys ty ck_tags ck_pvs0 Ex (ck_tab 295) [Value.ref a0, Value.int x1, Value.int x2] pvv0) [Value.ref a0, Value.int x1, Value.int x2].toArray s 0 0 (ck_own ty)) (F0 m 73 ls []) := by
    intro n73
    induction n73 with
    | zero => intro k nn ls H locs hm73 k1 k2 hl hW hS; omega
    | succ n73 ih73 =>
      intro k nn ls H locs hm73 k1 k2 hl hW hS
      refine lv_aload_n hx hb dX12_castsBy_73 rfl (lv_at hl 2 rfl) ?_
      refine cm_callV (kc := kc_202) B rfl hb hl (hM.1 _ _ 0 [202] (isM (by decide +kernel)) 202 (by decide)) (hH 202 (by decide)) (b := a0) (As := []) ⟨hr_aR t0, True.intro⟩ hp hW hS rfl (by decide) (by decide) (Nat.le_of_ble_eq_true rfl) dX12_castsBy_74 (fun cs hcs r pvv74 H locs hca hW hS => ?_)
      rcases List.mem_cons.mp hcs with rfl | hcs
      · obtain ⟨hr, hq, hc⟩ := hca
        obtain ⟨z74, rfl, lz74, uz74⟩ := hr_rvI hr
        have hW := hr_pvE (hr_sameA hc rfl (by decide +kernel)) hW
        refine hr_eq0 (tgt := 81) hx hb dX12_castsBy_77 (by decide) (fun h77 => ?_) (fun h77 => ?_)
        · refine lv_iload_n hx hb dX12_castsBy_81 rfl (lv_at hl 1 rfl) ?_
          refine hr_ne0 (tgt := 92) hx hb dX12_castsBy_82 (by decide) (fun h82 => ?_) (fun h82 => ?_)
          · refine hr_ic hx hb dX12_castsBy_92 (by decide) (fun z92 hz92 => ?_)
            refine lv_istore hx hb dX12_castsBy_93 hl (lv' := [(4, .int z92), (3, .int nn), (0, .ref a0), (1, .int x1), (2, .int x2)]) (by decide) rfl (fun ls hl => ?_)
            refine lv_aload_n hx hb dX12_castsBy_95 rfl (lv_at hl 2 rfl) ?_
            refine hr_getR B hF hb hW (ci := 12) (j := 24) (cd := 3) t0 rfl (isF (by decide +kernel)) rfl dX12_castsBy_96 (fun az96 tz96 xz96 => ?_)
            refine hr_ic hx hb dX12_castsBy_99 (by decide) (fun z99 hz99 => ?_)
            refine hr_ic hx hb dX12_castsBy_100 (by decide) (fun z100 hz100 => ?_)
            obtain ⟨C, hW⟩ := hr_trkG (ts := [39, 34]) hW (fun t ht => hun t ((by decide : ∀ t ∈ [39, 34], t ∈ ck_uns) t ht)) pqC pqC_u (by decide +kernel)
            obtain ⟨M, m1⟩ : ∃ M, (C 34 2).toInt = M := ⟨_, rfl⟩
            obtain ⟨m2, m3⟩ : 0 ≤ M ∧ M ≤ 8 := by rw [← m1]; exact hr_tkR hW (pq := pqC) (j := 6) (t' := 34) (fun _ h => h.2) t0 rfl rfl rfl (by decide) (by decide +kernel) ⟨(2, 2), by decide, by decide, by decide⟩
            have l102 : ∀ (n102 : Nat) (i : Int32) (nn : Int32) (C : Nat → Nat → Int32) (ls : Array Slot) (H : Heap) (locs : List Loc), mu (fun q => (C 39 q).toInt) M (i.toInt + 1).toNat < n102 → (-1 ≤ i.toInt) → (i.toInt ≤ nn.toInt - 1) → (1 ≤ nn.toInt) → (nn.toInt ≤ 6) → ((C 34 2).toInt = M) → (∀ q : Nat, (q : Int) ≤ i.toInt → (C 39 q).toInt < M) → lv_has ls 5 [(4, .int i), (3, .int nn), (0, .ref a0), (1, .int x1), (2, .int x2)] → ck_Wo D cys ty ck_tags ck_pvs0 (fun ws => Ex ws ∧ tk ty pqC C ws) pvv0 H → va_S (ck_own ty) s.heap H locs → W p l e (ck_rm (ck_tab 295)) s m [Value.ref a0, Value.int x1, Value.int x2].toArray below meth c H locs 0 0 (MQ below (ck_Qc D cys ty ck_tags ck_pvs0 Ex (ck_tab 295) [Value.ref a0, Value.int x1, Value.int x2] pvv0) [Value.ref a0, Value.int x1, Value.int x2].toArray s 0 0 (ck_own ty)) (F0 m 102 ls []) := by
              intro n102
              induction n102 with
              | zero => intro i nn C ls H locs hm102 i1 i2 n1 n2 m1 fM hl hW hS; have := mu_nn (f := fun q => (C 39 q).toInt) (M := M) (d := (i.toInt + 1).toNat) (fun k hk => by have := fM k (by omega); omega); omega
              | succ n102 ih102 =>
                intro i nn C ls H locs hm102 i1 i2 n1 n2 m1 fM hl hW hS
                refine lv_iload hx hb dX12_castsBy_102 (lv_at hl 0 rfl) ?_
                refine hr_lt0 (tgt := 181) hx hb dX12_castsBy_104 (by decide) (fun h104 => ?_) (fun h104 => ?_)
                · have hW := hr_mono (fun _ h => h.1) hW
                  exact cm_vret B hb rfl ⟨_, List.mem_cons_self, True.intro, (fun q h => nomatch h), hr_wk (hr_self hp0) (by decide +kernel)⟩ hW hS dX12_castsBy_181
                · refine lv_aload_n hx hb dX12_castsBy_107 rfl (lv_at hl 2 rfl) ?_
                  refine hr_getR B hF hb hW (ci := 12) (j := 24) (cd := 3) t0 rfl (isF (by decide +kernel)) rfl dX12_castsBy_108 (fun az108 tz108 xz108 => ?_)
                  refine lv_iload hx hb dX12_castsBy_111 (lv_at hl 0 rfl) ?_
                  refine lv_dup2_11 hx hb dX12_castsBy_113 rfl rfl ?_
                  refine hr_iald B hb hW tz108 rfl (by omega) (by omega) dX12_castsBy_114 (fun z114 iz114 pz114 xz114 => ?_)
                  have iz114 := hr_inr iz114 (a := 0) (b := 5) (lo := -1) (hi := 8) (by omega) (by omega) (by decide +kernel)
                  have xz114 := tk_xa xz114 (fun _ h => h.2) (pq := pqC) (C := C) tz108 ⟨(0, 5), by decide, by dsimp only; omega, by dsimp only; omega⟩; have kz114 := congrArg Int32.toInt xz114
                  have f114 := fM i.toInt.toNat (by omega)
                  refine hr_ic hx hb dX12_castsBy_115 (by decide) (fun z115 hz115 => ?_)
                  refine hr_add hx hb dX12_castsBy_116 (by omega) (by omega) (fun z116 hz116 => ?_)
                  refine hr_iastN (Ex' := fun ws => Ex ws ∧ tk ty pqC (tk_upd C 39 (i.toInt.toNat) z116) ws) B hb hU hW hS tz108 rfl (by omega) (by omega) (hr_ins (a := 0) (b := 5) (lo := -1) (hi := 8) (by omega) (by omega) (by decide +kernel) (by omega) (by omega)) (fun ws q f hD hE hq => ⟨hr_EA (i := i) hX tz108 (u := 0) (v := 5) (by omega) (by omega) (by decide) ws q f hD hE.1 hq, tk_EA tz108 (fun a h => hun 39 (by decide) _ _ tz108 h) ws q f hD hE.2 hq⟩) (u := 0) (v := 5) (by omega) (by omega) (by decide) dX12_castsBy_117 (fun H locs hW hS => ?_)
                  obtain ⟨C117, c117⟩ : ∃ f, f = tk_upd C 39 (i.toInt.toNat) z116 := ⟨_, rfl⟩
                  rw [← c117] at hW
                  have m117 : (C117 34 2).toInt = M := by rw [c117, tk_unt (by decide)]; exact m1
                  have m1 := m117
                  have q117 : (C117 39 (i.toInt.toNat)).toInt = z116.toInt := by rw [c117, tk_us]
                  have o117 : ∀ k, k ≠ i.toInt.toNat → (C117 39 k).toInt = (C 39 k).toInt := fun k hk => by rw [c117, tk_unj hk]
                  refine lv_aload_n hx hb dX12_castsBy_118 rfl (lv_at hl 2 rfl) ?_
                  refine hr_getR B hF hb hW (ci := 12) (j := 24) (cd := 3) t0 rfl (isF (by decide +kernel)) rfl dX12_castsBy_119 (fun az119 tz119 xz119 => ?_)
                  refine lv_iload hx hb dX12_castsBy_122 (lv_at hl 0 rfl) ?_
                  refine hr_iald B hb hW tz119 rfl (by omega) (by omega) dX12_castsBy_124 (fun z124 iz124 pz124 xz124 => ?_)
                  have iz124 := hr_inr iz124 (a := 0) (b := 5) (lo := -1) (hi := 8) (by omega) (by omega) (by decide +kernel)
                  have xz124 := tk_xa xz124 (fun _ h => h.2) (pq := pqC) (C := C117) tz119 ⟨(0, 5), by decide, by dsimp only; omega, by dsimp only; omega⟩; have kz124 := congrArg Int32.toInt xz124
                  have e124 : z124.toInt = z116.toInt := by rw [kz124]; exact q117
                  refine lv_aload_n hx hb dX12_castsBy_125 rfl (lv_at hl 2 rfl) ?_
                  refine hr_getR B hF hb hW (ci := 12) (j := 6) (cd := 3) t0 rfl (isF (by decide +kernel)) rfl dX12_castsBy_126 (fun az126 tz126 xz126 => ?_)
                  refine hr_ic hx hb dX12_castsBy_129 (by decide) (fun z129 hz129 => ?_)
                  refine hr_iald B hb hW tz126 rfl (by omega) (by omega) dX12_castsBy_130 (fun z130 iz130 pz130 xz130 => ?_)
                  have iz130 := hr_inr iz130 (a := 2) (b := 2) (lo := 0) (hi := 8) (by omega) (by omega) (by decide +kernel)
                  have xz130 := tk_xa xz130 (fun _ h => h.2) (pq := pqC) (C := C117) tz126 ⟨(2, 2), by decide, by dsimp only; omega, by dsimp only; omega⟩; have kz130 := congrArg Int32.toInt xz130
                  have e130 : z130.toInt = M := by rw [kz130, show z129.toInt.toNat = 2 by omega]; exact m1
                  refine hr_ne (tgt := 140) hx hb dX12_castsBy_131 (by decide) (fun h131 => ?_) (fun h131 => ?_)
                  · refine lv_aload_n hx hb dX12_castsBy_140 rfl (lv_at hl 2 rfl) ?_
                    refine lv_iload hx hb dX12_castsBy_141 (lv_at hl 0 rfl) ?_
                    refine lv_iload_n hx hb dX12_castsBy_143 rfl (lv_at hl 3 rfl) ?_
                    refine cm_callV (kc := kc_205) B rfl hb hl (hM.1 _ _ 0 [205] (isM (by decide +kernel)) 205 (by decide)) (hHA _ (hX2 _) 205 (by decide)) (b := a0) (As := [.int i, .int x1]) ⟨hr_aR t0, hr_aI (by omega) (by omega), hr_aI (by omega) (by omega), True.intro⟩ hp hW hS rfl (by decide) (by decide) (Nat.le_of_ble_eq_true rfl) dX12_castsBy_144 (fun cs hcs r pvv144 H locs hca hW hS => ?_)
                    rcases List.mem_cons.mp hcs with rfl | hcs
                    · obtain ⟨hr, hq, hc⟩ := hca
                      obtain ⟨z144, rfl, lz144, uz144⟩ := hr_rvI hr
                      have hW := hr_pvE (hr_sameA hc rfl (by decide +kernel)) hW
                      refine hr_eq0 (tgt := 102) hx hb dX12_castsBy_147 (by decide) (fun h147 => ?_) (fun h147 => ?_)
                      · refine ih102 i nn C117 _ _ _ ?_ (by omega) (by omega) (by omega) (by omega) m1 (fun q hq => ?_) (lv_sub hl [0, 1, 2, 3, 4] rfl) hW hS
                        · have := mu_up (f := fun q => (C 39 q).toInt) (g := fun q => (C117 39 q).toInt) (M := M) (d := i.toInt.toNat) (fun k hk => o117 k (by omega)) (by omega)
                          rw [show (i.toInt + 1).toNat = i.toInt.toNat + 1 by omega] at hm102 ⊢; omega
                        · by_cases e : q = i.toInt.toNat
                          · subst e; omega
                          · rw [o117 q e]; exact fM q (by omega)
                      · refine lv_iload hx hb dX12_castsBy_150 (lv_at hl 0 rfl) ?_
                        refine lv_iload_n hx hb dX12_castsBy_152 rfl (lv_at hl 1 rfl) ?_
                        refine hr_ic hx hb dX12_castsBy_153 (by decide) (fun z153 hz153 => ?_)
                        refine hr_sub hx hb dX12_castsBy_154 (by omega) (by omega) (fun z154 hz154 => ?_)
                        refine hr_ne (tgt := 167) hx hb dX12_castsBy_155 (by decide) (fun h155 => ?_) (fun h155 => ?_)
                        · refine hr_inc hx hb dX12_castsBy_167 hl (kq := 0) (lv' := fun v => [(4, .int v), (3, .int nn), (0, .ref a0), (1, .int x1), (2, .int x2)]) rfl (by decide) (by decide) (by omega) (by omega) (fun _ => rfl) (fun z167 ls hz167 hl => ?_)
                          refine lv_aload_n hx hb dX12_castsBy_170 rfl (lv_at hl 2 rfl) ?_
                          refine hr_getR B hF hb hW (ci := 12) (j := 24) (cd := 3) t0 rfl (isF (by decide +kernel)) rfl dX12_castsBy_171 (fun az171 tz171 xz171 => ?_)
                          refine lv_iload hx hb dX12_castsBy_174 (lv_at hl 0 rfl) ?_
                          refine hr_ic hx hb dX12_castsBy_176 (by decide) (fun z176 hz176 => ?_)
                          refine hr_iastN (Ex' := fun ws => Ex ws ∧ tk ty pqC (tk_upd C117 39 (z167.toInt.toNat) z176) ws) B hb hU hW hS tz171 rfl (by omega) (by omega) (hr_ins (a := 0) (b := 5) (lo := -1) (hi := 8) (by omega) (by omega) (by decide +kernel) (by omega) (by omega)) (fun ws q f hD hE hq => ⟨hr_EA (i := z167) hX tz171 (u := 0) (v := 5) (by omega) (by omega) (by decide) ws q f hD hE.1 hq, tk_EA tz171 (fun a h => hun 39 (by decide) _ _ tz171 h) ws q f hD hE.2 hq⟩) (u := 0) (v := 5) (by omega) (by omega) (by decide) dX12_castsBy_177 (fun H locs hW hS => ?_)
                          obtain ⟨C177, c177⟩ : ∃ f, f = tk_upd C117 39 (z167.toInt.toNat) z176 := ⟨_, rfl⟩
                          rw [← c177] at hW
                          have m177 : (C177 34 2).toInt = M := by rw [c177, tk_unt (by decide)]; exact m1
                          have m1 := m177
                          have q177 : (C177 39 (z167.toInt.toNat)).toInt = z176.toInt := by rw [c177, tk_us]
                          have o177 : ∀ k, k ≠ z167.toInt.toNat → (C177 39 k).toInt = (C117 39 k).toInt := fun k hk => by rw [c177, tk_unj hk]
                          refine lv_goto (tgt := 102) hx hb dX12_castsBy_178 (by decide) ?_
                          refine ih102 z167 nn C177 _ _ _ ?_ (by omega) (by omega) (by omega) (by omega) m1 (fun q hq => ?_) (lv_sub hl [0, 1, 2, 3, 4] rfl) hW hS
                          · have := mu_push (f := fun q => (C 39 q).toInt) (g := fun q => (C177 39 q).toInt) (M := M) (d := i.toInt.toNat) (fun k hk => by rw [o177 k (by omega)]; exact o117 k (by omega)) (by rw [o177 _ (by omega)]; omega) (by omega) (by rw [show i.toInt.toNat + 1 = z167.toInt.toNat by omega, q177]; omega) (by omega)
                            rw [show (z167.toInt + 1).toNat = i.toInt.toNat + 2 by omega]; rw [show (i.toInt + 1).toNat = i.toInt.toNat + 1 by omega] at hm102; omega
                          · by_cases e2 : q = z167.toInt.toNat
                            · subst e2; omega
                            · rw [o177 q e2]
                              by_cases e : q = i.toInt.toNat
                              · subst e; omega
                              · rw [o117 q e]; exact fM q (by omega)
                        · refine lv_aload_n hx hb dX12_castsBy_158 rfl (lv_at hl 2 rfl) ?_
                          refine lv_iload_n hx hb dX12_castsBy_159 rfl (lv_at hl 1 rfl) ?_
                          refine lv_iload_n hx hb dX12_castsBy_160 rfl (lv_at hl 4 rfl) ?_
                          refine cm_callV (kc := kc_201) B rfl hb hl (hM.1 _ _ 0 [201] (isM (by decide +kernel)) 201 (by decide)) (hHA _ (hX2 _) 201 (by decide)) (b := a0) (As := [.int nn, .int x2]) ⟨hr_aR t0, hr_aI (by omega) (by omega), hr_aF, True.intro⟩ hp hW hS rfl (by decide) (by decide) (Nat.le_of_ble_eq_true rfl) dX12_castsBy_161 (fun cs hcs r pvv161 H locs hca hW hS => ?_)
                          obtain rfl := List.mem_singleton.mp hcs
                          obtain ⟨hr, hq, hc⟩ := hca
                          obtain rfl := hr_rv0 hr
                          have hW := hr_pvE (hr_sameA hc rfl (by decide +kernel)) hW
                          refine lv_goto (tgt := 102) hx hb dX12_castsBy_164 (by decide) ?_
                          refine ih102 i nn C117 _ _ _ ?_ (by omega) (by omega) (by omega) (by omega) m1 (fun q hq => ?_) (lv_sub hl [0, 1, 2, 3, 4] rfl) hW hS
                          · have := mu_up (f := fun q => (C 39 q).toInt) (g := fun q => (C117 39 q).toInt) (M := M) (d := i.toInt.toNat) (fun k hk => o117 k (by omega)) (by omega)
                            rw [show (i.toInt + 1).toNat = i.toInt.toNat + 1 by omega] at hm102 ⊢; omega
                          · by_cases e : q = i.toInt.toNat
                            · subst e; omega
                            · rw [o117 q e]; exact fM q (by omega)
                    obtain rfl := List.mem_singleton.mp hcs
                    obtain ⟨hr, hq, hc⟩ := hca
                    obtain ⟨z144, rfl, lz144, uz144⟩ := hr_rvI hr
                    have hW := hr_pvE (hr_sameA hc rfl (by decide +kernel)) hW
                    refine hr_eq0 (tgt := 102) hx hb dX12_castsBy_147 (by decide) (fun h147 => ?_) (fun h147 => ?_)
                    · refine ih102 i nn C117 _ _ _ ?_ (by omega) (by omega) (by omega) (by omega) m1 (fun q hq => ?_) (lv_sub hl [0, 1, 2, 3, 4] rfl) hW hS
                      · have := mu_up (f := fun q => (C 39 q).toInt) (g := fun q => (C117 39 q).toInt) (M := M) (d := i.toInt.toNat) (fun k hk => o117 k (by omega)) (by omega)
                        rw [show (i.toInt + 1).toNat = i.toInt.toNat + 1 by omega] at hm102 ⊢; omega
                      · by_cases e : q = i.toInt.toNat
                        · subst e; omega
                        · rw [o117 q e]; exact fM q (by omega)
                    · refine lv_iload hx hb dX12_castsBy_150 (lv_at hl 0 rfl) ?_
                      refine lv_iload_n hx hb dX12_castsBy_152 rfl (lv_at hl 1 rfl) ?_
                      refine hr_ic hx hb dX12_castsBy_153 (by decide) (fun z153 hz153 => ?_)
                      refine hr_sub hx hb dX12_castsBy_154 (by omega) (by omega) (fun z154 hz154 => ?_)
                      refine hr_ne (tgt := 167) hx hb dX12_castsBy_155 (by decide) (fun h155 => ?_) (fun h155 => ?_)
                      · refine hr_inc hx hb dX12_castsBy_167 hl (kq := 0) (lv' := fun v => [(4, .int v), (3, .int nn), (0, .ref a0), (1, .int x1), (2, .int x2)]) rfl (by decide) (by decide) (by omega) (by omega) (fun _ => rfl) (fun z167 ls hz167 hl => ?_)
                        refine lv_aload_n hx hb dX12_castsBy_170 rfl (lv_at hl 2 rfl) ?_
                        refine hr_getR B hF hb hW (ci := 12) (j := 24) (cd := 3) t0 rfl (isF (by decide +kernel)) rfl dX12_castsBy_171 (fun az171 tz171 xz171 => ?_)
                        refine lv_iload hx hb dX12_castsBy_174 (lv_at hl 0 rfl) ?_
                        refine hr_ic hx hb dX12_castsBy_176 (by decide) (fun z176 hz176 => ?_)
                        refine hr_iastN (Ex' := fun ws => Ex ws ∧ tk ty pqC (tk_upd C117 39 (z167.toInt.toNat) z176) ws) B hb hU hW hS tz171 rfl (by omega) (by omega) (hr_ins (a := 0) (b := 5) (lo := -1) (hi := 8) (by omega) (by omega) (by decide +kernel) (by omega) (by omega)) (fun ws q f hD hE hq => ⟨hr_EA (i := z167) hX tz171 (u := 0) (v := 5) (by omega) (by omega) (by decide) ws q f hD hE.1 hq, tk_EA tz171 (fun a h => hun 39 (by decide) _ _ tz171 h) ws q f hD hE.2 hq⟩) (u := 0) (v := 5) (by omega) (by omega) (by decide) dX12_castsBy_177 (fun H locs hW hS => ?_)
                        obtain ⟨C177, c177⟩ : ∃ f, f = tk_upd C117 39 (z167.toInt.toNat) z176 := ⟨_, rfl⟩
                        rw [← c177] at hW
                        have m177 : (C177 34 2).toInt = M := by rw [c177, tk_unt (by decide)]; exact m1
                        have m1 := m177
                        have q177 : (C177 39 (z167.toInt.toNat)).toInt = z176.toInt := by rw [c177, tk_us]
                        have o177 : ∀ k, k ≠ z167.toInt.toNat → (C177 39 k).toInt = (C117 39 k).toInt := fun k hk => by rw [c177, tk_unj hk]
                        refine lv_goto (tgt := 102) hx hb dX12_castsBy_178 (by decide) ?_
                        refine ih102 z167 nn C177 _ _ _ ?_ (by omega) (by omega) (by omega) (by omega) m1 (fun q hq => ?_) (lv_sub hl [0, 1, 2, 3, 4] rfl) hW hS
                        · have := mu_push (f := fun q => (C 39 q).toInt) (g := fun q => (C177 39 q).toInt) (M := M) (d := i.toInt.toNat) (fun k hk => by rw [o177 k (by omega)]; exact o117 k (by omega)) (by rw [o177 _ (by omega)]; omega) (by omega) (by rw [show i.toInt.toNat + 1 = z167.toInt.toNat by omega, q177]; omega) (by omega)
                          rw [show (z167.toInt + 1).toNat = i.toInt.toNat + 2 by omega]; rw [show (i.toInt + 1).toNat = i.toInt.toNat + 1 by omega] at hm102; omega
                        · by_cases e2 : q = z167.toInt.toNat
                          · subst e2; omega
                          · rw [o177 q e2]
                            by_cases e : q = i.toInt.toNat
                            · subst e; omega
                            · rw [o117 q e]; exact fM q (by omega)
                      · refine lv_aload_n hx hb dX12_castsBy_158 rfl (lv_at hl 2 rfl) ?_
                        refine lv_iload_n hx hb dX12_castsBy_159 rfl (lv_at hl 1 rfl) ?_
                        refine lv_iload_n hx hb dX12_castsBy_160 rfl (lv_at hl 4 rfl) ?_
                        refine cm_callV (kc := kc_201) B rfl hb hl (hM.1 _ _ 0 [201] (isM (by decide +kernel)) 201 (by decide)) (hHA _ (hX2 _) 201 (by decide)) (b := a0) (As := [.int nn, .int x2]) ⟨hr_aR t0, hr_aI (by omega) (by omega), hr_aF, True.intro⟩ hp hW hS rfl (by decide) (by decide) (Nat.le_of_ble_eq_true rfl) dX12_castsBy_161 (fun cs hcs r pvv161 H locs hca hW hS => ?_)
                        obtain rfl := List.mem_singleton.mp hcs
                        obtain ⟨hr, hq, hc⟩ := hca
                        obtain rfl := hr_rv0 hr
                        have hW := hr_pvE (hr_sameA hc rfl (by decide +kernel)) hW
                        refine lv_goto (tgt := 102) hx hb dX12_castsBy_164 (by decide) ?_
                        refine ih102 i nn C117 _ _ _ ?_ (by omega) (by omega) (by omega) (by omega) m1 (fun q hq => ?_) (lv_sub hl [0, 1, 2, 3, 4] rfl) hW hS
                        · have := mu_up (f := fun q => (C 39 q).toInt) (g := fun q => (C117 39 q).toInt) (M := M) (d := i.toInt.toNat) (fun k hk => o117 k (by omega)) (by omega)
                          rw [show (i.toInt + 1).toNat = i.toInt.toNat + 1 by omega] at hm102 ⊢; omega
                        · by_cases e : q = i.toInt.toNat
                          · subst e; omega
                          · rw [o117 q e]; exact fM q (by omega)
                  · refine hr_inc hx hb dX12_castsBy_134 hl (kq := 0) (lv' := fun v => [(4, .int v), (3, .int nn), (0, .ref a0), (1, .int x1), (2, .int x2)]) rfl (by decide) (by decide) (by omega) (by omega) (fun _ => rfl) (fun z134 ls hz134 hl => ?_)
                    refine lv_goto (tgt := 102) hx hb dX12_castsBy_137 (by decide) ?_
                    refine ih102 z134 nn C117 _ _ _ ?_ (by omega) (by omega) (by omega) (by omega) m1 (fun q hq => ?_) (lv_sub hl [0, 1, 2, 3, 4] rfl) hW hS
                    · have := mu_pop (f := fun q => (C 39 q).toInt) (g := fun q => (C117 39 q).toInt) (M := M) (d := i.toInt.toNat) (fun k hk => o117 k (by omega)) (fM i.toInt.toNat (by omega))
                      rw [show (z134.toInt + 1).toNat = i.toInt.toNat by omega]; rw [show (i.toInt + 1).toNat = i.toInt.toNat + 1 by omega] at hm102; omega
                    · rw [o117 q (by omega)]; exact fM q (by omega)
            refine hr_iastN (Ex' := fun ws => Ex ws ∧ tk ty pqC (tk_upd C 39 (z99.toInt.toNat) z100) ws) B hb hU hW hS tz96 rfl (by omega) (by omega) (hr_ins (a := 0) (b := 5) (lo := -1) (hi := 8) (by omega) (by omega) (by decide +kernel) (by omega) (by omega)) (fun ws q f hD hE hq => ⟨hr_EA (i := z99) hX tz96 (u := 0) (v := 5) (by omega) (by omega) (by decide) ws q f hD hE.1 hq, tk_EA tz96 (fun a h => hun 39 (by decide) _ _ tz96 h) ws q f hD hE.2 hq⟩) (u := 0) (v := 5) (by omega) (by omega) (by decide) dX12_castsBy_101 (fun H locs hW hS => ?_)
            obtain ⟨C101, c101⟩ : ∃ f, f = tk_upd C 39 (z99.toInt.toNat) z100 := ⟨_, rfl⟩
            rw [← c101] at hW
            have m101 : (C101 34 2).toInt = M := by rw [c101, tk_unt (by decide)]; exact m1
            have m1 := m101
            have q101 : (C101 39 (z99.toInt.toNat)).toInt = z100.toInt := by rw [c101, tk_us]
            have o101 : ∀ k, k ≠ z99.toInt.toNat → (C101 39 k).toInt = (C 39 k).toInt := fun k hk => by rw [c101, tk_unj hk]
            have e9 : (z92.toInt + 1).toNat = 1 := by omega
            have q8 : (C101 39 0).toInt = -1 := by rw [show (0 : Nat) = z99.toInt.toNat by omega, q101, hz100]
            refine l102 1000000 z92 nn C101 _ _ _ ?_ (by omega) (by omega) (by omega) (by omega) m1 (fun q hq => ?_) (lv_sub hl [0, 1, 2, 3, 4] rfl) hW hS
            · rw [e9]; show (0 : Int) + mu_w 0 * (M - (C101 39 0).toInt) < (1000000 : Nat); rw [q8]; rw [show mu_w 0 = 100000 from rfl]; omega
            · have : q = 0 := by omega
              subst this; rw [q8]; omega
          · refine lv_aload_n hx hb dX12_castsBy_85 rfl (lv_at hl 2 rfl) ?_
            refine hr_ic hx hb dX12_castsBy_86 (by decide) (fun z86 hz86 => ?_)
            refine lv_iload_n hx hb dX12_castsBy_87 rfl (lv_at hl 4 rfl) ?_
            refine cm_callV (kc := kc_201) B rfl hb hl (hM.1 _ _ 0 [201] (isM (by decide +kernel)) 201 (by decide)) (hH 201 (by decide)) (b := a0) (As := [.int z86, .int x2]) ⟨hr_aR t0, hr_aI (by omega) (by omega), hr_aF, True.intro⟩ hp hW hS rfl (by decide) (by decide) (Nat.le_of_ble_eq_true rfl) dX12_castsBy_88 (fun cs hcs r pvv88 H locs hca hW hS => ?_)
            obtain rfl := List.mem_singleton.mp hcs
            obtain ⟨hr, hq, hc⟩ := hca
            obtain rfl := hr_rv0 hr
            have hW := hr_pvE (hr_sameA hc rfl (by decide +kernel)) hW
            exact cm_vret B hb rfl ⟨_, List.mem_cons_self, True.intro, (fun q h => nomatch h), hr_wk (hr_self hp0) (by decide +kernel)⟩ hW hS dX12_castsBy_91
        · exact cm_vret B hb rfl ⟨_, List.mem_cons_self, True.intro, (fun q h => nomatch h), hr_wk (hr_self hp0) (by decide +kernel)⟩ hW hS dX12_castsBy_80
      obtain rfl := List.mem_singleton.mp hcs
      obtain ⟨hr, hq, hc⟩ := hca
      obtain ⟨z74, rfl, lz74, uz74⟩ := hr_rvI hr
      have hW := hr_pvE (hr_sameA hc rfl (by decide +kernel)) hW
      refine hr_eq0 (tgt := 81) hx hb dX12_castsBy_77 (by decide) (fun h77 => ?_) (fun h77 => ?_)
      · refine lv_iload_n hx hb dX12_castsBy_81 rfl (lv_at hl 1 rfl) ?_
        refine hr_ne0 (tgt := 92) hx hb dX12_castsBy_82 (by decide) (fun h82 => ?_) (fun h82 => ?_)
        · refine hr_ic hx hb dX12_castsBy_92 (by decide) (fun z92 hz92 => ?_)
          refine lv_istore hx hb dX12_castsBy_93 hl (lv' := [(4, .int z92), (3, .int nn), (0, .ref a0), (1, .int x1), (2, .int x2)]) (by decide) rfl (fun ls hl => ?_)
          refine lv_aload_n hx hb dX12_castsBy_95 rfl (lv_at hl 2 rfl) ?_
          refine hr_getR B hF hb hW (ci := 12) (j := 24) (cd := 3) t0 rfl (isF (by decide +kernel)) rfl dX12_castsBy_96 (fun az96 tz96 xz96 => ?_)
          refine hr_ic hx hb dX12_castsBy_99 (by decide) (fun z99 hz99 => ?_)
          refine hr_ic hx hb dX12_castsBy_100 (by decide) (fun z100 hz100 => ?_)
          obtain ⟨C, hW⟩ := hr_trkG (ts := [39, 34]) hW (fun t ht => hun t ((by decide : ∀ t ∈ [39, 34], t ∈ ck_uns) t ht)) pqC pqC_u (by decide +kernel)
          obtain ⟨M, m1⟩ : ∃ M, (C 34 2).toInt = M := ⟨_, rfl⟩
          obtain ⟨m2, m3⟩ : 0 ≤ M ∧ M ≤ 8 := by rw [← m1]; exact hr_tkR hW (pq := pqC) (j := 6) (t' := 34) (fun _ h => h.2) t0 rfl rfl rfl (by decide) (by decide +kernel) ⟨(2, 2), by decide, by decide, by decide⟩
          have l102 : ∀ (n102 : Nat) (i : Int32) (nn : Int32) (C : Nat → Nat → Int32) (ls : Array Slot) (H : Heap) (locs : List Loc), mu (fun q => (C 39 q).toInt) M (i.toInt + 1).toNat < n102 → (-1 ≤ i.toInt) → (i.toInt ≤ nn.toInt - 1) → (1 ≤ nn.toInt) → (nn.toInt ≤ 6) → ((C 34 2).toInt = M) → (∀ q : Nat, (q : Int) ≤ i.toInt → (C 39 q).toInt < M) → lv_has ls 5 [(4, .int i), (3, .int nn), (0, .ref a0), (1, .int x1), (2, .int x2)] → ck_Wo D cys ty ck_tags ck_pvs0 (fun ws => Ex ws ∧ tk ty pqC C ws) pvv0 H → va_S (ck_own ty) s.heap H locs → W p l e (ck_rm (ck_tab 295)) s m [Value.ref a0, Value.int x1, Value.int x2].toArray below meth c H locs 0 0 (MQ below (ck_Qc D cys ty ck_tags ck_pvs0 Ex (ck_tab 295) [Value.ref a0, Value.int x1, Value.int x2] pvv0) [Value.ref a0, Value.int x1, Value.int x2].toArray s 0 0 (ck_own ty)) (F0 m 102 ls []) := by
            intro n102
            induction n102 with
            | zero => intro i nn C ls H locs hm102 i1 i2 n1 n2 m1 fM hl hW hS; have := mu_nn (f := fun q => (C 39 q).toInt) (M := M) (d := (i.toInt + 1).toNat) (fun k hk => by have := fM k (by omega); omega); omega
            | succ n102 ih102 =>
              intro i nn C ls H locs hm102 i1 i2 n1 n2 m1 fM hl hW hS
              refine lv_iload hx hb dX12_castsBy_102 (lv_at hl 0 rfl) ?_
              refine hr_lt0 (tgt := 181) hx hb dX12_castsBy_104 (by decide) (fun h104 => ?_) (fun h104 => ?_)
              · have hW := hr_mono (fun _ h => h.1) hW
                exact cm_vret B hb rfl ⟨_, List.mem_cons_self, True.intro, (fun q h => nomatch h), hr_wk (hr_self hp0) (by decide +kernel)⟩ hW hS dX12_castsBy_181
              · refine lv_aload_n hx hb dX12_castsBy_107 rfl (lv_at hl 2 rfl) ?_
                refine hr_getR B hF hb hW (ci := 12) (j := 24) (cd := 3) t0 rfl (isF (by decide +kernel)) rfl dX12_castsBy_108 (fun az108 tz108 xz108 => ?_)
                refine lv_iload hx hb dX12_castsBy_111 (lv_at hl 0 rfl) ?_
                refine lv_dup2_11 hx hb dX12_castsBy_113 rfl rfl ?_
                refine hr_iald B hb hW tz108 rfl (by omega) (by omega) dX12_castsBy_114 (fun z114 iz114 pz114 xz114 => ?_)
                have iz114 := hr_inr iz114 (a := 0) (b := 5) (lo := -1) (hi := 8) (by omega) (by omega) (by decide +kernel)
                have xz114 := tk_xa xz114 (fun _ h => h.2) (pq := pqC) (C := C) tz108 ⟨(0, 5), by decide, by dsimp only; omega, by dsimp only; omega⟩; have kz114 := congrArg Int32.toInt xz114
                have f114 := fM i.toInt.toNat (by omega)
                refine hr_ic hx hb dX12_castsBy_115 (by decide) (fun z115 hz115 => ?_)
                refine hr_add hx hb dX12_castsBy_116 (by omega) (by omega) (fun z116 hz116 => ?_)
                refine hr_iastN (Ex' := fun ws => Ex ws ∧ tk ty pqC (tk_upd C 39 (i.toInt.toNat) z116) ws) B hb hU hW hS tz108 rfl (by omega) (by omega) (hr_ins (a := 0) (b := 5) (lo := -1) (hi := 8) (by omega) (by omega) (by decide +kernel) (by omega) (by omega)) (fun ws q f hD hE hq => ⟨hr_EA (i := i) hX tz108 (u := 0) (v := 5) (by omega) (by omega) (by decide) ws q f hD hE.1 hq, tk_EA tz108 (fun a h => hun 39 (by decide) _ _ tz108 h) ws q f hD hE.2 hq⟩) (u := 0) (v := 5) (by omega) (by omega) (by decide) dX12_castsBy_117 (fun H locs hW hS => ?_)
                obtain ⟨C117, c117⟩ : ∃ f, f = tk_upd C 39 (i.toInt.toNat) z116 := ⟨_, rfl⟩
                rw [← c117] at hW
                have m117 : (C117 34 2).toInt = M := by rw [c117, tk_unt (by decide)]; exact m1
                have m1 := m117
                have q117 : (C117 39 (i.toInt.toNat)).toInt = z116.toInt := by rw [c117, tk_us]
                have o117 : ∀ k, k ≠ i.toInt.toNat → (C117 39 k).toInt = (C 39 k).toInt := fun k hk => by rw [c117, tk_unj hk]
                refine lv_aload_n hx hb dX12_castsBy_118 rfl (lv_at hl 2 rfl) ?_
                refine hr_getR B hF hb hW (ci := 12) (j := 24) (cd := 3) t0 rfl (isF (by decide +kernel)) rfl dX12_castsBy_119 (fun az119 tz119 xz119 => ?_)
                refine lv_iload hx hb dX12_castsBy_122 (lv_at hl 0 rfl) ?_
                refine hr_iald B hb hW tz119 rfl (by omega) (by omega) dX12_castsBy_124 (fun z124 iz124 pz124 xz124 => ?_)
                have iz124 := hr_inr iz124 (a := 0) (b := 5) (lo := -1) (hi := 8) (by omega) (by omega) (by decide +kernel)
                have xz124 := tk_xa xz124 (fun _ h => h.2) (pq := pqC) (C := C117) tz119 ⟨(0, 5), by decide, by dsimp only; omega, by dsimp only; omega⟩; have kz124 := congrArg Int32.toInt xz124
                have e124 : z124.toInt = z116.toInt := by rw [kz124]; exact q117
                refine lv_aload_n hx hb dX12_castsBy_125 rfl (lv_at hl 2 rfl) ?_
                refine hr_getR B hF hb hW (ci := 12) (j := 6) (cd := 3) t0 rfl (isF (by decide +kernel)) rfl dX12_castsBy_126 (fun az126 tz126 xz126 => ?_)
                refine hr_ic hx hb dX12_castsBy_129 (by decide) (fun z129 hz129 => ?_)
                refine hr_iald B hb hW tz126 rfl (by omega) (by omega) dX12_castsBy_130 (fun z130 iz130 pz130 xz130 => ?_)
                have iz130 := hr_inr iz130 (a := 2) (b := 2) (lo := 0) (hi := 8) (by omega) (by omega) (by decide +kernel)
                have xz130 := tk_xa xz130 (fun _ h => h.2) (pq := pqC) (C := C117) tz126 ⟨(2, 2), by decide, by dsimp only; omega, by dsimp only; omega⟩; have kz130 := congrArg Int32.toInt xz130
                have e130 : z130.toInt = M := by rw [kz130, show z129.toInt.toNat = 2 by omega]; exact m1
                refine hr_ne (tgt := 140) hx hb dX12_castsBy_131 (by decide) (fun h131 => ?_) (fun h131 => ?_)
                · refine lv_aload_n hx hb dX12_castsBy_140 rfl (lv_at hl 2 rfl) ?_
                  refine lv_iload hx hb dX12_castsBy_141 (lv_at hl 0 rfl) ?_
                  refine lv_iload_n hx hb dX12_castsBy_143 rfl (lv_at hl 3 rfl) ?_
                  refine cm_callV (kc := kc_205) B rfl hb hl (hM.1 _ _ 0 [205] (isM (by decide +kernel)) 205 (by decide)) (hHA _ (hX2 _) 205 (by decide)) (b := a0) (As := [.int i, .int x1]) ⟨hr_aR t0, hr_aI (by omega) (by omega), hr_aI (by omega) (by omega), True.intro⟩ hp hW hS rfl (by decide) (by decide) (Nat.le_of_ble_eq_true rfl) dX12_castsBy_144 (fun cs hcs r pvv144 H locs hca hW hS => ?_)
                  rcases List.mem_cons.mp hcs with rfl | hcs
                  · obtain ⟨hr, hq, hc⟩ := hca
                    obtain ⟨z144, rfl, lz144, uz144⟩ := hr_rvI hr
                    have hW := hr_pvE (hr_sameA hc rfl (by decide +kernel)) hW
                    refine hr_eq0 (tgt := 102) hx hb dX12_castsBy_147 (by decide) (fun h147 => ?_) (fun h147 => ?_)
                    · refine ih102 i nn C117 _ _ _ ?_ (by omega) (by omega) (by omega) (by omega) m1 (fun q hq => ?_) (lv_sub hl [0, 1, 2, 3, 4] rfl) hW hS
                      · have := mu_up (f := fun q => (C 39 q).toInt) (g := fun q => (C117 39 q).toInt) (M := M) (d := i.toInt.toNat) (fun k hk => o117 k (by omega)) (by omega)
                        rw [show (i.toInt + 1).toNat = i.toInt.toNat + 1 by omega] at hm102 ⊢; omega
                      · by_cases e : q = i.toInt.toNat
                        · subst e; omega
                        · rw [o117 q e]; exact fM q (by omega)
                    · refine lv_iload hx hb dX12_castsBy_150 (lv_at hl 0 rfl) ?_
                      refine lv_iload_n hx hb dX12_castsBy_152 rfl (lv_at hl 1 rfl) ?_
                      refine hr_ic hx hb dX12_castsBy_153 (by decide) (fun z153 hz153 => ?_)
                      refine hr_sub hx hb dX12_castsBy_154 (by omega) (by omega) (fun z154 hz154 => ?_)
                      refine hr_ne (tgt := 167) hx hb dX12_castsBy_155 (by decide) (fun h155 => ?_) (fun h155 => ?_)
                      · refine hr_inc hx hb dX12_castsBy_167 hl (kq := 0) (lv' := fun v => [(4, .int v), (3, .int nn), (0, .ref a0), (1, .int x1), (2, .int x2)]) rfl (by decide) (by decide) (by omega) (by omega) (fun _ => rfl) (fun z167 ls hz167 hl => ?_)
                        refine lv_aload_n hx hb dX12_castsBy_170 rfl (lv_at hl 2 rfl) ?_
                        refine hr_getR B hF hb hW (ci := 12) (j := 24) (cd := 3) t0 rfl (isF (by decide +kernel)) rfl dX12_castsBy_171 (fun az171 tz171 xz171 => ?_)
                        refine lv_iload hx hb dX12_castsBy_174 (lv_at hl 0 rfl) ?_
                        refine hr_ic hx hb dX12_castsBy_176 (by decide) (fun z176 hz176 => ?_)
                        refine hr_iastN (Ex' := fun ws => Ex ws ∧ tk ty pqC (tk_upd C117 39 (z167.toInt.toNat) z176) ws) B hb hU hW hS tz171 rfl (by omega) (by omega) (hr_ins (a := 0) (b := 5) (lo := -1) (hi := 8) (by omega) (by omega) (by decide +kernel) (by omega) (by omega)) (fun ws q f hD hE hq => ⟨hr_EA (i := z167) hX tz171 (u := 0) (v := 5) (by omega) (by omega) (by decide) ws q f hD hE.1 hq, tk_EA tz171 (fun a h => hun 39 (by decide) _ _ tz171 h) ws q f hD hE.2 hq⟩) (u := 0) (v := 5) (by omega) (by omega) (by decide) dX12_castsBy_177 (fun H locs hW hS => ?_)
                        obtain ⟨C177, c177⟩ : ∃ f, f = tk_upd C117 39 (z167.toInt.toNat) z176 := ⟨_, rfl⟩
                        rw [← c177] at hW
                        have m177 : (C177 34 2).toInt = M := by rw [c177, tk_unt (by decide)]; exact m1
                        have m1 := m177
                        have q177 : (C177 39 (z167.toInt.toNat)).toInt = z176.toInt := by rw [c177, tk_us]
                        have o177 : ∀ k, k ≠ z167.toInt.toNat → (C177 39 k).toInt = (C117 39 k).toInt := fun k hk => by rw [c177, tk_unj hk]
                        refine lv_goto (tgt := 102) hx hb dX12_castsBy_178 (by decide) ?_
                        refine ih102 z167 nn C177 _ _ _ ?_ (by omega) (by omega) (by omega) (by omega) m1 (fun q hq => ?_) (lv_sub hl [0, 1, 2, 3, 4] rfl) hW hS
                        · have := mu_push (f := fun q => (C 39 q).toInt) (g := fun q => (C177 39 q).toInt) (M := M) (d := i.toInt.toNat) (fun k hk => by rw [o177 k (by omega)]; exact o117 k (by omega)) (by rw [o177 _ (by omega)]; omega) (by omega) (by rw [show i.toInt.toNat + 1 = z167.toInt.toNat by omega, q177]; omega) (by omega)
                          rw [show (z167.toInt + 1).toNat = i.toInt.toNat + 2 by omega]; rw [show (i.toInt + 1).toNat = i.toInt.toNat + 1 by omega] at hm102; omega
                        · by_cases e2 : q = z167.toInt.toNat
                          · subst e2; omega
                          · rw [o177 q e2]
                            by_cases e : q = i.toInt.toNat
                            · subst e; omega
                            · rw [o117 q e]; exact fM q (by omega)
                      · refine lv_aload_n hx hb dX12_castsBy_158 rfl (lv_at hl 2 rfl) ?_
                        refine lv_iload_n hx hb dX12_castsBy_159 rfl (lv_at hl 1 rfl) ?_
                        refine lv_iload_n hx hb dX12_castsBy_160 rfl (lv_at hl 4 rfl) ?_
                        refine cm_callV (kc := kc_201) B rfl hb hl (hM.1 _ _ 0 [201] (isM (by decide +kernel)) 201 (by decide)) (hHA _ (hX2 _) 201 (by decide)) (b := a0) (As := [.int nn, .int x2]) ⟨hr_aR t0, hr_aI (by omega) (by omega), hr_aF, True.intro⟩ hp hW hS rfl (by decide) (by decide) (Nat.le_of_ble_eq_true rfl) dX12_castsBy_161 (fun cs hcs r pvv161 H locs hca hW hS => ?_)
                        obtain rfl := List.mem_singleton.mp hcs
                        obtain ⟨hr, hq, hc⟩ := hca
                        obtain rfl := hr_rv0 hr
                        have hW := hr_pvE (hr_sameA hc rfl (by decide +kernel)) hW
                        refine lv_goto (tgt := 102) hx hb dX12_castsBy_164 (by decide) ?_
                        refine ih102 i nn C117 _ _ _ ?_ (by omega) (by omega) (by omega) (by omega) m1 (fun q hq => ?_) (lv_sub hl [0, 1, 2, 3, 4] rfl) hW hS
                        · have := mu_up (f := fun q => (C 39 q).toInt) (g := fun q => (C117 39 q).toInt) (M := M) (d := i.toInt.toNat) (fun k hk => o117 k (by omega)) (by omega)
                          rw [show (i.toInt + 1).toNat = i.toInt.toNat + 1 by omega] at hm102 ⊢; omega
                        · by_cases e : q = i.toInt.toNat
                          · subst e; omega
                          · rw [o117 q e]; exact fM q (by omega)
                  obtain rfl := List.mem_singleton.mp hcs
                  obtain ⟨hr, hq, hc⟩ := hca
                  obtain ⟨z144, rfl, lz144, uz144⟩ := hr_rvI hr
                  have hW := hr_pvE (hr_sameA hc rfl (by decide +kernel)) hW
                  refine hr_eq0 (tgt := 102) hx hb dX12_castsBy_147 (by decide) (fun h147 => ?_) (fun h147 => ?_)
                  · refine ih102 i nn C117 _ _ _ ?_ (by omega) (by omega) (by omega) (by omega) m1 (fun q hq => ?_) (lv_sub hl [0, 1, 2, 3, 4] rfl) hW hS
                    · have := mu_up (f := fun q => (C 39 q).toInt) (g := fun q => (C117 39 q).toInt) (M := M) (d := i.toInt.toNat) (fun k hk => o117 k (by omega)) (by omega)
                      rw [show (i.toInt + 1).toNat = i.toInt.toNat + 1 by omega] at hm102 ⊢; omega
                    · by_cases e : q = i.toInt.toNat
                      · subst e; omega
                      · rw [o117 q e]; exact fM q (by omega)
                  · refine lv_iload hx hb dX12_castsBy_150 (lv_at hl 0 rfl) ?_
                    refine lv_iload_n hx hb dX12_castsBy_152 rfl (lv_at hl 1 rfl) ?_
                    refine hr_ic hx hb dX12_castsBy_153 (by decide) (fun z153 hz153 => ?_)
                    refine hr_sub hx hb dX12_castsBy_154 (by omega) (by omega) (fun z154 hz154 => ?_)
                    refine hr_ne (tgt := 167) hx hb dX12_castsBy_155 (by decide) (fun h155 => ?_) (fun h155 => ?_)
                    · refine hr_inc hx hb dX12_castsBy_167 hl (kq := 0) (lv' := fun v => [(4, .int v), (3, .int nn), (0, .ref a0), (1, .int x1), (2, .int x2)]) rfl (by decide) (by decide) (by omega) (by omega) (fun _ => rfl) (fun z167 ls hz167 hl => ?_)
                      refine lv_aload_n hx hb dX12_castsBy_170 rfl (lv_at hl 2 rfl) ?_
                      refine hr_getR B hF hb hW (ci := 12) (j := 24) (cd := 3) t0 rfl (isF (by decide +kernel)) rfl dX12_castsBy_171 (fun az171 tz171 xz171 => ?_)
                      refine lv_iload hx hb dX12_castsBy_174 (lv_at hl 0 rfl) ?_
                      refine hr_ic hx hb dX12_castsBy_176 (by decide) (fun z176 hz176 => ?_)
                      refine hr_iastN (Ex' := fun ws => Ex ws ∧ tk ty pqC (tk_upd C117 39 (z167.toInt.toNat) z176) ws) B hb hU hW hS tz171 rfl (by omega) (by omega) (hr_ins (a := 0) (b := 5) (lo := -1) (hi := 8) (by omega) (by omega) (by decide +kernel) (by omega) (by omega)) (fun ws q f hD hE hq => ⟨hr_EA (i := z167) hX tz171 (u := 0) (v := 5) (by omega) (by omega) (by decide) ws q f hD hE.1 hq, tk_EA tz171 (fun a h => hun 39 (by decide) _ _ tz171 h) ws q f hD hE.2 hq⟩) (u := 0) (v := 5) (by omega) (by omega) (by decide) dX12_castsBy_177 (fun H locs hW hS => ?_)
                      obtain ⟨C177, c177⟩ : ∃ f, f = tk_upd C117 39 (z167.toInt.toNat) z176 := ⟨_, rfl⟩
                      rw [← c177] at hW
                      have m177 : (C177 34 2).toInt = M := by rw [c177, tk_unt (by decide)]; exact m1
                      have m1 := m177
                      have q177 : (C177 39 (z167.toInt.toNat)).toInt = z176.toInt := by rw [c177, tk_us]
                      have o177 : ∀ k, k ≠ z167.toInt.toNat → (C177 39 k).toInt = (C117 39 k).toInt := fun k hk => by rw [c177, tk_unj hk]
                      refine lv_goto (tgt := 102) hx hb dX12_castsBy_178 (by decide) ?_
                      refine ih102 z167 nn C177 _ _ _ ?_ (by omega) (by omega) (by omega) (by omega) m1 (fun q hq => ?_) (lv_sub hl [0, 1, 2, 3, 4] rfl) hW hS
                      · have := mu_push (f := fun q => (C 39 q).toInt) (g := fun q => (C177 39 q).toInt) (M := M) (d := i.toInt.toNat) (fun k hk => by rw [o177 k (by omega)]; exact o117 k (by omega)) (by rw [o177 _ (by omega)]; omega) (by omega) (by rw [show i.toInt.toNat + 1 = z167.toInt.toNat by omega, q177]; omega) (by omega)
                        rw [show (z167.toInt + 1).toNat = i.toInt.toNat + 2 by omega]; rw [show (i.toInt + 1).toNat = i.toInt.toNat + 1 by omega] at hm102; omega
                      · by_cases e2 : q = z167.toInt.toNat
                        · subst e2; omega
                        · rw [o177 q e2]
                          by_cases e : q = i.toInt.toNat
                          · subst e; omega
                          · rw [o117 q e]; exact fM q (by omega)
                    · refine lv_aload_n hx hb dX12_castsBy_158 rfl (lv_at hl 2 rfl) ?_
                      refine lv_iload_n hx hb dX12_castsBy_159 rfl (lv_at hl 1 rfl) ?_
                      refine lv_iload_n hx hb dX12_castsBy_160 rfl (lv_at hl 4 rfl) ?_
                      refine cm_callV (kc := kc_201) B rfl hb hl (hM.1 _ _ 0 [201] (isM (by decide +kernel)) 201 (by decide)) (hHA _ (hX2 _) 201 (by decide)) (b := a0) (As := [.int nn, .int x2]) ⟨hr_aR t0, hr_aI (by omega) (by omega), hr_aF, True.intro⟩ hp hW hS rfl (by decide) (by decide) (Nat.le_of_ble_eq_true rfl) dX12_castsBy_161 (fun cs hcs r pvv161 H locs hca hW hS => ?_)
                      obtain rfl := List.mem_singleton.mp hcs
                      obtain ⟨hr, hq, hc⟩ := hca
                      obtain rfl := hr_rv0 hr
                      have hW := hr_pvE (hr_sameA hc rfl (by decide +kernel)) hW
                      refine lv_goto (tgt := 102) hx hb dX12_castsBy_164 (by decide) ?_
                      refine ih102 i nn C117 _ _ _ ?_ (by omega) (by omega) (by omega) (by omega) m1 (fun q hq => ?_) (lv_sub hl [0, 1, 2, 3, 4] rfl) hW hS
                      · have := mu_up (f := fun q => (C 39 q).toInt) (g := fun q => (C117 39 q).toInt) (M := M) (d := i.toInt.toNat) (fun k hk => o117 k (by omega)) (by omega)
                        rw [show (i.toInt + 1).toNat = i.toInt.toNat + 1 by omega] at hm102 ⊢; omega
                      · by_cases e : q = i.toInt.toNat
                        · subst e; omega
                        · rw [o117 q e]; exact fM q (by omega)
                · refine hr_inc hx hb dX12_castsBy_134 hl (kq := 0) (lv' := fun v => [(4, .int v), (3, .int nn), (0, .ref a0), (1, .int x1), (2, .int x2)]) rfl (by decide) (by decide) (by omega) (by omega) (fun _ => rfl) (fun z134 ls hz134 hl => ?_)
                  refine lv_goto (tgt := 102) hx hb dX12_castsBy_137 (by decide) ?_
                  refine ih102 z134 nn C117 _ _ _ ?_ (by omega) (by omega) (by omega) (by omega) m1 (fun q hq => ?_) (lv_sub hl [0, 1, 2, 3, 4] rfl) hW hS
                  · have := mu_pop (f := fun q => (C 39 q).toInt) (g := fun q => (C117 39 q).toInt) (M := M) (d := i.toInt.toNat) (fun k hk => o117 k (by omega)) (fM i.toInt.toNat (by omega))
                    rw [show (z134.toInt + 1).toNat = i.toInt.toNat by omega]; rw [show (i.toInt + 1).toNat = i.toInt.toNat + 1 by omega] at hm102; omega
                  · rw [o117 q (by omega)]; exact fM q (by omega)
          refine hr_iastN (Ex' := fun ws => Ex ws ∧ tk ty pqC (tk_upd C 39 (z99.toInt.toNat) z100) ws) B hb hU hW hS tz96 rfl (by omega) (by omega) (hr_ins (a := 0) (b := 5) (lo := -1) (hi := 8) (by omega) (by omega) (by decide +kernel) (by omega) (by omega)) (fun ws q f hD hE hq => ⟨hr_EA (i := z99) hX tz96 (u := 0) (v := 5) (by omega) (by omega) (by decide) ws q f hD hE.1 hq, tk_EA tz96 (fun a h => hun 39 (by decide) _ _ tz96 h) ws q f hD hE.2 hq⟩) (u := 0) (v := 5) (by omega) (by omega) (by decide) dX12_castsBy_101 (fun H locs hW hS => ?_)
          obtain ⟨C101, c101⟩ : ∃ f, f = tk_upd C 39 (z99.toInt.toNat) z100 := ⟨_, rfl⟩
          rw [← c101] at hW
          have m101 : (C101 34 2).toInt = M := by rw [c101, tk_unt (by decide)]; exact m1
          have m1 := m101
          have q101 : (C101 39 (z99.toInt.toNat)).toInt = z100.toInt := by rw [c101, tk_us]
          have o101 : ∀ k, k ≠ z99.toInt.toNat → (C101 39 k).toInt = (C 39 k).toInt := fun k hk => by rw [c101, tk_unj hk]
          have e9 : (z92.toInt + 1).toNat = 1 := by omega
          have q8 : (C101 39 0).toInt = -1 := by rw [show (0 : Nat) = z99.toInt.toNat by omega, q101, hz100]
          refine l102 1000000 z92 nn C101 _ _ _ ?_ (by omega) (by omega) (by omega) (by omega) m1 (fun q hq => ?_) (lv_sub hl [0, 1, 2, 3, 4] rfl) hW hS
          · rw [e9]; show (0 : Int) + mu_w 0 * (M - (C101 39 0).toInt) < (1000000 : Nat); rw [q8]; rw [show mu_w 0 = 100000 from rfl]; omega
          · have : q = 0 := by omega
            subst this; rw [q8]; omega
        · refine lv_aload_n hx hb dX12_castsBy_85 rfl (lv_at hl 2 rfl) ?_
          refine hr_ic hx hb dX12_castsBy_86 (by decide) (fun z86 hz86 => ?_)
          refine lv_iload_n hx hb dX12_castsBy_87 rfl (lv_at hl 4 rfl) ?_
          refine cm_callV (kc := kc_201) B rfl hb hl (hM.1 _ _ 0 [201] (isM (by decide +kernel)) 201 (by decide)) (hH 201 (by decide)) (b := a0) (As := [.int z86, .int x2]) ⟨hr_aR t0, hr_aI (by omega) (by omega), hr_aF, True.intro⟩ hp hW hS rfl (by decide) (by decide) (Nat.le_of_ble_eq_true rfl) dX12_castsBy_88 (fun cs hcs r pvv88 H locs hca hW hS => ?_)
          obtain rfl := List.mem_singleton.mp hcs
          obtain ⟨hr, hq, hc⟩ := hca
          obtain rfl := hr_rv0 hr
          have hW := hr_pvE (hr_sameA hc rfl (by decide +kernel)) hW
          exact cm_vret B hb rfl ⟨_, List.mem_cons_self, True.intro, (fun q h => nomatch h), hr_wk (hr_self hp0) (by decide +kernel)⟩ hW hS dX12_castsBy_91
      · exact cm_vret B hb rfl ⟨_, List.mem_cons_self, True.intro, (fun q h => nomatch h), hr_wk (hr_self hp0) (by decide +kernel)⟩ hW hS dX12_castsBy_80
  have l15 : ∀ (n15 : Nat) (k : Int32) (nn : Int32) (ls : Array Slot) (H : Heap) (locs : List Loc), 6 - k.toInt < n15 → (0 ≤ nn.toInt) → (nn.toInt ≤ k.toInt) → (k.toInt ≤ 6) → lv_has ls 5 [(4, .int k), (3, .int nn), (0, .ref a0), (1, .int x1), (2, .int x2)] → ck_Wo D cys ty ck_tags ck_pvs0 Ex pvv0 H → va_S (ck_own ty) s.heap H locs → W p l e (ck_rm (ck_tab 295)) s m [Value.ref a0, Value.int x1, Value.int x2].toArray below meth c H locs 0 0 (MQ below (ck_Qc D cys ty ck_tags ck_pvs0 Ex (ck_tab 295) [Value.ref a0, Value.int x1, Value.int x2] pvv0) [Value.ref a0, Value.int x1, Value.int x2].toArray s 0 0 (ck_own ty)) (F0 m 15 ls []) := by
    intro n15
    induction n15 with
    | zero => intro k nn ls H locs hm15 k1 k2 k3 hl hW hS; omega
    | succ n15 ih15 =>
      intro k nn ls H locs hm15 k1 k2 k3 hl hW hS
      refine lv_iload hx hb dX12_castsBy_15 (lv_at hl 0 rfl) ?_
      refine lv_aload_n hx hb dX12_castsBy_17 rfl (lv_at hl 2 rfl) ?_
      refine hr_getR B hF hb hW (ci := 12) (j := 6) (cd := 3) t0 rfl (isF (by decide +kernel)) rfl dX12_castsBy_18 (fun az18 tz18 xz18 => ?_)
      refine hr_ic hx hb dX12_castsBy_21 (by decide) (fun z21 hz21 => ?_)
      refine hr_iald B hb hW tz18 rfl (by omega) (by omega) dX12_castsBy_22 (fun z22 iz22 pz22 xz22 => ?_)
      have iz22 := hr_inr iz22 (a := 0) (b := 0) (lo := 0) (hi := 6) (by omega) (by omega) (by decide +kernel)
      refine hr_ge (tgt := 73) hx hb dX12_castsBy_23 (by decide) (fun h23 => ?_) (fun h23 => ?_)
      · exact l73 1 k nn _ _ _ (by omega) (by omega) (by omega) hl hW hS
      · refine lv_aload_n hx hb dX12_castsBy_26 rfl (lv_at hl 2 rfl) ?_
        refine cm_callV (kc := kc_202) B rfl hb hl (hM.1 _ _ 0 [202] (isM (by decide +kernel)) 202 (by decide)) (hH 202 (by decide)) (b := a0) (As := []) ⟨hr_aR t0, True.intro⟩ hp hW hS rfl (by decide) (by decide) (Nat.le_of_ble_eq_true rfl) dX12_castsBy_27 (fun cs hcs r pvv27 H locs hca hW hS => ?_)
        rcases List.mem_cons.mp hcs with rfl | hcs
        · obtain ⟨hr, hq, hc⟩ := hca
          obtain ⟨z27, rfl, lz27, uz27⟩ := hr_rvI hr
          have hW := hr_pvE (hr_sameA hc rfl (by decide +kernel)) hW
          refine hr_ne0 (tgt := 73) hx hb dX12_castsBy_30 (by decide) (fun h30 => ?_) (fun h30 => ?_)
          · exact l73 1 k nn _ _ _ (by omega) (by omega) (by omega) hl hW hS
          · refine lv_aload_n hx hb dX12_castsBy_33 rfl (lv_at hl 2 rfl) ?_
            refine lv_aload_n hx hb dX12_castsBy_34 rfl (lv_at hl 2 rfl) ?_
            refine hr_getR B hF hb hW (ci := 12) (j := 6) (cd := 3) t0 rfl (isF (by decide +kernel)) rfl dX12_castsBy_35 (fun az35 tz35 xz35 => ?_)
            refine hr_sp hx hb dX12_castsBy_38 (by decide) (by decide) (fun z38 hz38 => ?_)
            refine hr_iald B hb hW tz35 rfl (by omega) (by omega) dX12_castsBy_41 (fun z41 iz41 pz41 xz41 => ?_)
            have iz41 := hr_inr iz41 (a := 140) (b := 140) (lo := 0) (hi := 6) (by omega) (by omega) (by decide +kernel)
            have pz41 := congrArg Int32.toInt (pz41 16 (by rw [show z38.toInt.toNat = 140 by omega]; rfl))
            refine cm_callV (kc := kc_186) B rfl hb hl (hM.1 _ _ 0 [186] (isM (by decide +kernel)) 186 (by decide)) (hH 186 (by decide)) (b := a0) (As := [.int z41]) ⟨hr_aR t0, hr_aF, True.intro⟩ hp hW hS rfl (by decide) (by decide) (Nat.le_of_ble_eq_true rfl) dX12_castsBy_42 (fun cs hcs r pvv42 H locs hca hW hS => ?_)
            obtain rfl := List.mem_singleton.mp hcs
            obtain ⟨hr, hq, hc⟩ := hca
            obtain ⟨z42, rfl, lz42, uz42⟩ := hr_rvI hr
            have hW := hr_pvE (hr_sameA hc rfl (by decide +kernel)) hW
            refine lv_iload hx hb dX12_castsBy_45 (lv_at hl 0 rfl) ?_
            refine cm_callS (kc := kc_188) B rfl hb hl (hM.1 _ _ 1 [188] (isM (by decide +kernel)) 188 (by decide)) (hH 188 (by decide)) (As := [.int z42, .int k]) ⟨hr_aF, hr_aF, True.intro⟩ hp hW hS rfl (by decide) (by decide) (Nat.le_of_ble_eq_true rfl) dX12_castsBy_47 (fun cs hcs r pvv47 H locs hca hW hS => ?_)
            rcases List.mem_cons.mp hcs with rfl | hcs
            · obtain ⟨hr, hq, hc⟩ := hca
              obtain ⟨z47, rfl, lz47, uz47⟩ := hr_rvI hr
              have hW := hr_pvE (hr_sameA hc rfl (by decide +kernel)) hW
              refine hr_ne0 (tgt := 56) hx hb dX12_castsBy_50 (by decide) (fun h50 => ?_) (fun h50 => ?_)
              · refine lv_aload_n hx hb dX12_castsBy_56 rfl (lv_at hl 2 rfl) ?_
                refine hr_getR B hF hb hW (ci := 12) (j := 23) (cd := 3) t0 rfl (isF (by decide +kernel)) rfl dX12_castsBy_57 (fun az57 tz57 xz57 => ?_)
                refine lv_iload_n hx hb dX12_castsBy_60 rfl (lv_at hl 1 rfl) ?_
                refine lv_iload hx hb dX12_castsBy_61 (lv_at hl 0 rfl) ?_
                refine hr_iastN B hb hU hW hS tz57 rfl (by omega) (by omega) (hr_ins (a := 0) (b := 5) (lo := 0) (hi := 5) (by omega) (by omega) (by decide +kernel) (by omega) (by omega)) (hr_EA (i := nn) hX tz57 (u := 0) (v := 5) (by omega) (by omega) (by decide)) (u := 0) (v := 5) (by omega) (by omega) (by decide) dX12_castsBy_63 (fun H locs hW hS => ?_)
                refine hr_inc hx hb dX12_castsBy_64 hl (kq := 1) (lv' := fun v => [(3, .int v), (4, .int k), (0, .ref a0), (1, .int x1), (2, .int x2)]) rfl (by decide) (by decide) (by omega) (by omega) (fun _ => rfl) (fun z64 ls hz64 hl => ?_)
                refine hr_inc hx hb dX12_castsBy_67 hl (kq := 1) (lv' := fun v => [(4, .int v), (3, .int z64), (0, .ref a0), (1, .int x1), (2, .int x2)]) rfl (by decide) (by decide) (by omega) (by omega) (fun _ => rfl) (fun z67 ls hz67 hl => ?_)
                refine lv_goto (tgt := 15) hx hb dX12_castsBy_70 (by decide) ?_
                exact ih15 z67 z64 _ _ _ (by omega) (by omega) (by omega) (by omega) hl hW hS
              · refine lv_goto (tgt := 67) hx hb dX12_castsBy_53 (by decide) ?_
                refine hr_inc hx hb dX12_castsBy_67 hl (kq := 0) (lv' := fun v => [(4, .int v), (3, .int nn), (0, .ref a0), (1, .int x1), (2, .int x2)]) rfl (by decide) (by decide) (by omega) (by omega) (fun _ => rfl) (fun z67 ls hz67 hl => ?_)
                refine lv_goto (tgt := 15) hx hb dX12_castsBy_70 (by decide) ?_
                exact ih15 z67 nn _ _ _ (by omega) (by omega) (by omega) (by omega) hl hW hS
            obtain rfl := List.mem_singleton.mp hcs
            obtain ⟨hr, hq, hc⟩ := hca
            obtain ⟨z47, rfl, lz47, uz47⟩ := hr_rvI hr
            have hW := hr_pvE (hr_sameA hc rfl (by decide +kernel)) hW
            refine hr_ne0 (tgt := 56) hx hb dX12_castsBy_50 (by decide) (fun h50 => ?_) (fun h50 => ?_)
            · refine lv_aload_n hx hb dX12_castsBy_56 rfl (lv_at hl 2 rfl) ?_
              refine hr_getR B hF hb hW (ci := 12) (j := 23) (cd := 3) t0 rfl (isF (by decide +kernel)) rfl dX12_castsBy_57 (fun az57 tz57 xz57 => ?_)
              refine lv_iload_n hx hb dX12_castsBy_60 rfl (lv_at hl 1 rfl) ?_
              refine lv_iload hx hb dX12_castsBy_61 (lv_at hl 0 rfl) ?_
              refine hr_iastN B hb hU hW hS tz57 rfl (by omega) (by omega) (hr_ins (a := 0) (b := 5) (lo := 0) (hi := 5) (by omega) (by omega) (by decide +kernel) (by omega) (by omega)) (hr_EA (i := nn) hX tz57 (u := 0) (v := 5) (by omega) (by omega) (by decide)) (u := 0) (v := 5) (by omega) (by omega) (by decide) dX12_castsBy_63 (fun H locs hW hS => ?_)
              refine hr_inc hx hb dX12_castsBy_64 hl (kq := 1) (lv' := fun v => [(3, .int v), (4, .int k), (0, .ref a0), (1, .int x1), (2, .int x2)]) rfl (by decide) (by decide) (by omega) (by omega) (fun _ => rfl) (fun z64 ls hz64 hl => ?_)
              refine hr_inc hx hb dX12_castsBy_67 hl (kq := 1) (lv' := fun v => [(4, .int v), (3, .int z64), (0, .ref a0), (1, .int x1), (2, .int x2)]) rfl (by decide) (by decide) (by omega) (by omega) (fun _ => rfl) (fun z67 ls hz67 hl => ?_)
              refine lv_goto (tgt := 15) hx hb dX12_castsBy_70 (by decide) ?_
              exact ih15 z67 z64 _ _ _ (by omega) (by omega) (by omega) (by omega) hl hW hS
            · refine lv_goto (tgt := 67) hx hb dX12_castsBy_53 (by decide) ?_
              refine hr_inc hx hb dX12_castsBy_67 hl (kq := 0) (lv' := fun v => [(4, .int v), (3, .int nn), (0, .ref a0), (1, .int x1), (2, .int x2)]) rfl (by decide) (by decide) (by omega) (by omega) (fun _ => rfl) (fun z67 ls hz67 hl => ?_)
              refine lv_goto (tgt := 15) hx hb dX12_castsBy_70 (by decide) ?_
              exact ih15 z67 nn _ _ _ (by omega) (by omega) (by omega) (by omega) hl hW hS
        obtain rfl := List.mem_singleton.mp hcs
        obtain ⟨hr, hq, hc⟩ := hca
        obtain ⟨z27, rfl, lz27, uz27⟩ := hr_rvI hr
        have hW := hr_pvE (hr_sameA hc rfl (by decide +kernel)) hW
        refine hr_ne0 (tgt := 73) hx hb dX12_castsBy_30 (by decide) (fun h30 => ?_) (fun h30 => ?_)
        · exact l73 1 k nn _ _ _ (by omega) (by omega) (by omega) hl hW hS
        · refine lv_aload_n hx hb dX12_castsBy_33 rfl (lv_at hl 2 rfl) ?_
          refine lv_aload_n hx hb dX12_castsBy_34 rfl (lv_at hl 2 rfl) ?_
          refine hr_getR B hF hb hW (ci := 12) (j := 6) (cd := 3) t0 rfl (isF (by decide +kernel)) rfl dX12_castsBy_35 (fun az35 tz35 xz35 => ?_)
          refine hr_sp hx hb dX12_castsBy_38 (by decide) (by decide) (fun z38 hz38 => ?_)
          refine hr_iald B hb hW tz35 rfl (by omega) (by omega) dX12_castsBy_41 (fun z41 iz41 pz41 xz41 => ?_)
          have iz41 := hr_inr iz41 (a := 140) (b := 140) (lo := 0) (hi := 6) (by omega) (by omega) (by decide +kernel)
          have pz41 := congrArg Int32.toInt (pz41 16 (by rw [show z38.toInt.toNat = 140 by omega]; rfl))
          refine cm_callV (kc := kc_186) B rfl hb hl (hM.1 _ _ 0 [186] (isM (by decide +kernel)) 186 (by decide)) (hH 186 (by decide)) (b := a0) (As := [.int z41]) ⟨hr_aR t0, hr_aF, True.intro⟩ hp hW hS rfl (by decide) (by decide) (Nat.le_of_ble_eq_true rfl) dX12_castsBy_42 (fun cs hcs r pvv42 H locs hca hW hS => ?_)
          obtain rfl := List.mem_singleton.mp hcs
          obtain ⟨hr, hq, hc⟩ := hca
          obtain ⟨z42, rfl, lz42, uz42⟩ := hr_rvI hr
          have hW := hr_pvE (hr_sameA hc rfl (by decide +kernel)) hW
          refine lv_iload hx hb dX12_castsBy_45 (lv_at hl 0 rfl) ?_
          refine cm_callS (kc := kc_188) B rfl hb hl (hM.1 _ _ 1 [188] (isM (by decide +kernel)) 188 (by decide)) (hH 188 (by decide)) (As := [.int z42, .int k]) ⟨hr_aF, hr_aF, True.intro⟩ hp hW hS rfl (by decide) (by decide) (Nat.le_of_ble_eq_true rfl) dX12_castsBy_47 (fun cs hcs r pvv47 H locs hca hW hS => ?_)
          rcases List.mem_cons.mp hcs with rfl | hcs
          · obtain ⟨hr, hq, hc⟩ := hca
            obtain ⟨z47, rfl, lz47, uz47⟩ := hr_rvI hr
            have hW := hr_pvE (hr_sameA hc rfl (by decide +kernel)) hW
            refine hr_ne0 (tgt := 56) hx hb dX12_castsBy_50 (by decide) (fun h50 => ?_) (fun h50 => ?_)
            · refine lv_aload_n hx hb dX12_castsBy_56 rfl (lv_at hl 2 rfl) ?_
              refine hr_getR B hF hb hW (ci := 12) (j := 23) (cd := 3) t0 rfl (isF (by decide +kernel)) rfl dX12_castsBy_57 (fun az57 tz57 xz57 => ?_)
              refine lv_iload_n hx hb dX12_castsBy_60 rfl (lv_at hl 1 rfl) ?_
              refine lv_iload hx hb dX12_castsBy_61 (lv_at hl 0 rfl) ?_
              refine hr_iastN B hb hU hW hS tz57 rfl (by omega) (by omega) (hr_ins (a := 0) (b := 5) (lo := 0) (hi := 5) (by omega) (by omega) (by decide +kernel) (by omega) (by omega)) (hr_EA (i := nn) hX tz57 (u := 0) (v := 5) (by omega) (by omega) (by decide)) (u := 0) (v := 5) (by omega) (by omega) (by decide) dX12_castsBy_63 (fun H locs hW hS => ?_)
              refine hr_inc hx hb dX12_castsBy_64 hl (kq := 1) (lv' := fun v => [(3, .int v), (4, .int k), (0, .ref a0), (1, .int x1), (2, .int x2)]) rfl (by decide) (by decide) (by omega) (by omega) (fun _ => rfl) (fun z64 ls hz64 hl => ?_)
              refine hr_inc hx hb dX12_castsBy_67 hl (kq := 1) (lv' := fun v => [(4, .int v), (3, .int z64), (0, .ref a0), (1, .int x1), (2, .int x2)]) rfl (by decide) (by decide) (by omega) (by omega) (fun _ => rfl) (fun z67 ls hz67 hl => ?_)
              refine lv_goto (tgt := 15) hx hb dX12_castsBy_70 (by decide) ?_
              exact ih15 z67 z64 _ _ _ (by omega) (by omega) (by omega) (by omega) hl hW hS
            · refine lv_goto (tgt := 67) hx hb dX12_castsBy_53 (by decide) ?_
              refine hr_inc hx hb dX12_castsBy_67 hl (kq := 0) (lv' := fun v => [(4, .int v), (3, .int nn), (0, .ref a0), (1, .int x1), (2, .int x2)]) rfl (by decide) (by decide) (by omega) (by omega) (fun _ => rfl) (fun z67 ls hz67 hl => ?_)
              refine lv_goto (tgt := 15) hx hb dX12_castsBy_70 (by decide) ?_
              exact ih15 z67 nn _ _ _ (by omega) (by omega) (by omega) (by omega) hl hW hS
          obtain rfl := List.mem_singleton.mp hcs
          obtain ⟨hr, hq, hc⟩ := hca
          obtain ⟨z47, rfl, lz47, uz47⟩ := hr_rvI hr
          have hW := hr_pvE (hr_sameA hc rfl (by decide +kernel)) hW
          refine hr_ne0 (tgt := 56) hx hb dX12_castsBy_50 (by decide) (fun h50 => ?_) (fun h50 => ?_)
          · refine lv_aload_n hx hb dX12_castsBy_56 rfl (lv_at hl 2 rfl) ?_
            refine hr_getR B hF hb hW (ci := 12) (j := 23) (cd := 3) t0 rfl (isF (by decide +kernel)) rfl dX12_castsBy_57 (fun az57 tz57 xz57 => ?_)
            refine lv_iload_n hx hb dX12_castsBy_60 rfl (lv_at hl 1 rfl) ?_
            refine lv_iload hx hb dX12_castsBy_61 (lv_at hl 0 rfl) ?_
            refine hr_iastN B hb hU hW hS tz57 rfl (by omega) (by omega) (hr_ins (a := 0) (b := 5) (lo := 0) (hi := 5) (by omega) (by omega) (by decide +kernel) (by omega) (by omega)) (hr_EA (i := nn) hX tz57 (u := 0) (v := 5) (by omega) (by omega) (by decide)) (u := 0) (v := 5) (by omega) (by omega) (by decide) dX12_castsBy_63 (fun H locs hW hS => ?_)
            refine hr_inc hx hb dX12_castsBy_64 hl (kq := 1) (lv' := fun v => [(3, .int v), (4, .int k), (0, .ref a0), (1, .int x1), (2, .int x2)]) rfl (by decide) (by decide) (by omega) (by omega) (fun _ => rfl) (fun z64 ls hz64 hl => ?_)
            refine hr_inc hx hb dX12_castsBy_67 hl (kq := 1) (lv' := fun v => [(4, .int v), (3, .int z64), (0, .ref a0), (1, .int x1), (2, .int x2)]) rfl (by decide) (by decide) (by omega) (by omega) (fun _ => rfl) (fun z67 ls hz67 hl => ?_)
            refine lv_goto (tgt := 15) hx hb dX12_castsBy_70 (by decide) ?_
            exact ih15 z67 z64 _ _ _ (by omega) (by omega) (by omega) (by omega) hl hW hS
          · refine lv_goto (tgt := 67) hx hb dX12_castsBy_53 (by decide) ?_
            refine hr_inc hx hb dX12_castsBy_67 hl (kq := 0) (lv' := fun v => [(4, .int v), (3, .int nn), (0, .ref a0), (1, .int x1), (2, .int x2)]) rfl (by decide) (by decide) (by omega) (by omega) (fun _ => rfl) (fun z67 ls hz67 hl => ?_)
            refine lv_goto (tgt := 15) hx hb dX12_castsBy_70 (by decide) ?_
            exact ih15 z67 nn _ _ _ (by omega) (by omega) (by omega) (by omega) hl hW hS
  refine lv_aload_n hx hb dX12_castsBy_0 rfl (lv_at hl 0 rfl) ?_
  refine hr_ic hx hb dX12_castsBy_1 (by decide) (fun z1 hz1 => ?_)
  refine hr_putN B hF hb hU hW hS (ci := 12) (j := 26) (cd := 0) t0 rfl (isF (by decide +kernel)) rfl (ck_lo _) (ck_hi _) (Or.inl rfl) (hr_EO hX t0 (by decide)) (by decide) dX12_castsBy_2 (fun H locs hW hS => ?_)
  refine lv_aload_n hx hb dX12_castsBy_5 rfl (lv_at hl 0 rfl) ?_
  refine hr_ic hx hb dX12_castsBy_6 (by decide) (fun z6 hz6 => ?_)
  refine hr_putN B hF hb hU hW hS (ci := 12) (j := 30) (cd := 0) t0 rfl (isF (by decide +kernel)) rfl (ck_lo _) (ck_hi _) (Or.inl rfl) (hr_EO hX t0 (by decide)) (by decide) dX12_castsBy_7 (fun H locs hW hS => ?_)
  refine hr_ic hx hb dX12_castsBy_10 (by decide) (fun z10 hz10 => ?_)
  refine lv_istore_n hx hb dX12_castsBy_11 rfl hl (lv' := [(3, .int z10), (0, .ref a0), (1, .int x1), (2, .int x2)]) (by decide) rfl (fun ls hl => ?_)
  refine hr_ic hx hb dX12_castsBy_12 (by decide) (fun z12 hz12 => ?_)
  refine lv_istore hx hb dX12_castsBy_13 hl (lv' := [(4, .int z12), (3, .int z10), (0, .ref a0), (1, .int x1), (2, .int x2)]) (by decide) rfl (fun ls hl => ?_)
  exact l15 7 z12 z10 _ _ _ (by omega) (by omega) (by omega) (by omega) hl hW hS
end H26b
end
section
/-! BY HAND, 9: what is kept by hand (GE); keep, undo. -/
def dp (f : Nat → Int32) : Nat → Int
  | 0 => 0
  | i + 1 => dp f i + (if (f (1 + 3 * i)).toInt = 20 then 0 else if (f (1 + 3 * i)).toInt = 21 ∨ (f (1 + 3 * i)).toInt = 22 then -1 else 1)
/-- codes behind one another that can be done: f 0 of them -/
def cwf (f : Nat → Int32) : Prop := ∀ i : Nat, (i : Int) < (f 0).toInt → ((f (1 + 3 * i)).toInt = 20 → 1 ≤ dp f i) ∧ ((f (1 + 3 * i)).toInt = 21 ∨ (f (1 + 3 * i)).toInt = 22 → 2 ≤ dp f i)
theorem dp_co {f g : Nat → Int32} : ∀ {n : Nat}, (∀ j, j < 1 + 3 * n → g j = f j) → dp g n = dp f n
  | 0, _ => rfl
  | n + 1, h => by
    unfold dp
    rw [dp_co (n := n) (fun j hj => h j (by omega)), h (1 + 3 * n) (by omega)]
theorem cwf_co {f g : Nat → Int32} (h : ∀ j, j < 181 → g j = f j) (hn : (f 0).toInt ≤ 60) (hf : cwf f) : cwf g := by
  intro i hi
  rw [h 0 (by omega)] at hi
  rw [h (1 + 3 * i) (by omega), dp_co (fun j hj => h j (by omega))]
  exact hf i hi
def g1C (C : Nat → Nat → Int32) : Prop := ∀ k : Nat, (k : Int) < (C 0 0).toInt → ((C 29 k).toInt = 12 ∨ (C 29 k).toInt = 13) → 0 ≤ (C 30 k).toInt ∧ 0 ≤ (C 31 k).toInt
def g2C (C : Nat → Nat → Int32) : Prop := ∀ j : Nat, (j : Int) < (C 12 22).toInt → (C 37 (46 * j)).toInt ≤ (C 34 3).toInt
def g3C (C : Nat → Nat → Int32) : Prop := ∀ k : Nat, k < 2 → (C 46 k).toInt ≠ 0 → (C 45 (367 * k + 140)).toInt ≤ (C 45 (367 * k + 3)).toInt ∧ cwf (fun i => C 45 (367 * k + 186 + i))
def g4C (C : Nat → Nat → Int32) : Prop := cwf (fun i => C 34 (186 + i))
def gC (C : Nat → Nat → Int32) : Prop := g1C C ∧ g2C C ∧ g3C C ∧ g4C C
def GE (ty : Nat → Option Nat) : va_W → Prop := fun ws => ∃ C, tk ty ck_prot1 C ws ∧ gC C
section H27
variable {l : Launch} {D : va_G} {cys : Nat → ClassId} {ty : Nat → Option Nat} {pvv : Nat → Int32} {H : Heap}
theorem ge_ExP : ck_ExP ty ck_prot1 (GE ty) := fun ws q a t en en' hD hq hta hag hE => by
  obtain ⟨C, h1, h2⟩ := hE
  exact ⟨C, tk_ExP (fun _ _ h => h) ws q a t en en' hD hq hta hag h1, h2⟩
theorem tk_X1 {C : Nat → Nat → Int32} : ck_ExP ty ck_prot1 (tk ty ck_prot1 C) := tk_ExP (fun _ _ h => h)
theorem ge_in {C : Nat → Nat → Int32} (hW : ck_Wo D cys ty ck_tags ck_pvs0 (tk ty ck_prot1 C) pvv H) (hG : gC C) : ck_Wo D cys ty ck_tags ck_pvs0 (GE ty) pvv H := hr_mono (fun _ h => ⟨C, h, hG⟩) hW
theorem ge_out (hW : ck_Wo D cys ty ck_tags ck_pvs0 (GE ty) pvv H) : ∃ C, gC C ∧ ck_Wo D cys ty ck_tags ck_pvs0 (tk ty ck_prot1 C) pvv H := by
  obtain ⟨ws, h1, h2, h3, h4, C, h5, h6⟩ := hW
  exact ⟨C, h6, ws, h1, h2, h3, h4, h5⟩
/-- what is followed stands in the table too -/
theorem hr_lnk {E : va_W → Prop} {pq : Nat → List (Nat × Nat)} {C : Nat → Nat → Int32} (hW : ck_Wo D cys ty ck_tags ck_pvs0 E pvv H) (hE : ∀ ws, E ws → tk ty pq C ws) {a t q k : Nat} (hta : ty a = some t) (hq : ck_pvs0[q]? = some (t, k)) (hp : ck_fre (pq t) k k = false) : pvv q = C t k := by
  obtain ⟨ws, h1, h2, h3, h4, h5⟩ := hW
  have hp' : ck_pr (pq t) k := by
    unfold ck_fre at hp
    rw [List.all_eq_false] at hp
    obtain ⟨r, hr, h⟩ := hp
    simp only [Bool.or_eq_true, decide_eq_true_eq] at h
    exact ⟨r, hr, by omega, by omega⟩
  obtain ⟨q', en, g1, g2⟩ := h4 q t k hq a hta
  have g3 := hE ws h5 a t q' en hta g1 k hp'
  match en, g2, g3 with
  | .inr o, g2, g3 =>
    have g2 : o.2[k]? = some (.int (pvv q)) := g2
    have g3 : o.2[k]? = some (.int (C t k)) := g3
    rw [g2] at g3
    exact Value.int.inj (Option.some.inj g3)
  | .inl r, g2, g3 =>
    obtain ⟨b1, b2, b3⟩ := r
    match b3, g2, g3 with
    | .inl f, g2, g3 =>
      have g2 : f k = pvv q := g2
      have g3 : f k = C t k := g3
      rw [← g2, ← g3]
theorem hr_fld {E : va_W → Prop} (hW : ck_Wo D cys ty ck_tags ck_pvs0 E pvv H) {a t ci j t' : Nat} {fts : List ck_AV} (hta : ty a = some t) (htd : ck_tags[t]? = some (.inl (ci, fts))) (hft : fts[j]? = some (.inr (.inl t'))) : ∃ b, ty b = some t' := by
  obtain ⟨ws, h1, h2, h3, h4, h5⟩ := hW
  obtain ⟨q, fs, g1, g2, g3⟩ := cm_obj h3 hta htd
  obtain ⟨v, k1, b, rfl, tb⟩ := g3 j _ hft
  exact ⟨b, tb⟩
theorem sg_UU : ∀ i, i < 322 → ck_seg [(1, 0, 6), (6, -2147483648, 2147483647), (14, 0, 6), (40, -2147483648, 2147483647), (46, 0, 8), (47, 0, 6), (52, -2147483648, 2147483647), (60, 0, 6), (86, -2147483648, 2147483647), (92, 0, 8), (93, 0, 6), (98, -2147483648, 2147483647), (106, 0, 6), (132, -2147483648, 2147483647), (138, 0, 8), (139, 0, 6), (144, -2147483648, 2147483647), (152, 0, 6), (178, -2147483648, 2147483647), (184, 0, 8), (185, 0, 6), (190, -2147483648, 2147483647), (198, 0, 6), (224, -2147483648, 2147483647), (230, 0, 8), (231, 0, 6), (236, -2147483648, 2147483647), (244, 0, 6), (270, -2147483648, 2147483647), (276, 0, 8), (277, 0, 6), (282, -2147483648, 2147483647), (290, 0, 6), (316, -2147483648, 2147483647), (322, 0, 8), (323, 0, 6), (328, -2147483648, 2147483647), (336, 0, 6), (362, -2147483648, 2147483647), (368, 0, 8)] i = ck_seg [(1, 0, 6), (6, -2147483648, 2147483647), (14, 0, 6), (40, -2147483648, 2147483647), (46, 0, 8), (47, 0, 6), (52, -2147483648, 2147483647), (60, 0, 6), (86, -2147483648, 2147483647), (92, 0, 8), (93, 0, 6), (98, -2147483648, 2147483647), (106, 0, 6), (132, -2147483648, 2147483647), (138, 0, 8), (139, 0, 6), (144, -2147483648, 2147483647), (152, 0, 6), (178, -2147483648, 2147483647), (184, 0, 8), (185, 0, 6), (190, -2147483648, 2147483647), (198, 0, 6), (224, -2147483648, 2147483647), (230, 0, 8), (231, 0, 6), (236, -2147483648, 2147483647), (244, 0, 6), (270, -2147483648, 2147483647), (276, 0, 8), (277, 0, 6), (282, -2147483648, 2147483647), (290, 0, 6), (316, -2147483648, 2147483647), (322, 0, 8), (323, 0, 6), (328, -2147483648, 2147483647), (336, 0, 6), (362, -2147483648, 2147483647), (368, 0, 8)] (i + 46) := by decide +kernel
theorem dX12_keep_0 : decode cX12_keep 0 = .ok (.aload_n 0, 1) := by decide +kernel
theorem dX12_keep_1 : decode cX12_keep 1 = .ok (.getfield 254, 3) := by decide +kernel
theorem dX12_keep_4 : decode cX12_keep 4 = .ok (.bipush 8, 2) := by decide +kernel
theorem dX12_keep_6 : decode cX12_keep 6 = .ok (.if_icmp .ne 39, 3) := by decide +kernel
theorem dX12_keep_9 : decode cX12_keep 9 = .ok (.iconst 0, 1) := by decide +kernel
theorem dX12_keep_10 : decode cX12_keep 10 = .ok (.istore_n 1, 1) := by decide +kernel
theorem dX12_keep_11 : decode cX12_keep 11 = .ok (.iload_n 1, 1) := by decide +kernel
theorem dX12_keep_12 : decode cX12_keep 12 = .ok (.sipush 322, 3) := by decide +kernel
theorem dX12_keep_15 : decode cX12_keep 15 = .ok (.if_icmp .ge 24, 3) := by decide +kernel
theorem dX12_keep_18 : decode cX12_keep 18 = .ok (.aload_n 0, 1) := by decide +kernel
theorem dX12_keep_19 : decode cX12_keep 19 = .ok (.getfield 50, 3) := by decide +kernel
theorem dX12_keep_22 : decode cX12_keep 22 = .ok (.iload_n 1, 1) := by decide +kernel
theorem dX12_keep_23 : decode cX12_keep 23 = .ok (.aload_n 0, 1) := by decide +kernel
theorem dX12_keep_24 : decode cX12_keep 24 = .ok (.getfield 50, 3) := by decide +kernel
theorem dX12_keep_27 : decode cX12_keep 27 = .ok (.iload_n 1, 1) := by decide +kernel
theorem dX12_keep_28 : decode cX12_keep 28 = .ok (.bipush 46, 2) := by decide +kernel
theorem dX12_keep_30 : decode cX12_keep 30 = .ok (.iadd, 1) := by decide +kernel
theorem dX12_keep_31 : decode cX12_keep 31 = .ok (.iaload, 1) := by decide +kernel
theorem dX12_keep_32 : decode cX12_keep 32 = .ok (.iastore, 1) := by decide +kernel
theorem dX12_keep_33 : decode cX12_keep 33 = .ok (.iinc 1 1, 3) := by decide +kernel
theorem dX12_keep_36 : decode cX12_keep 36 = .ok (.goto (-25), 3) := by decide +kernel
theorem dX12_keep_39 : decode cX12_keep 39 = .ok (.aload_n 0, 1) := by decide +kernel
theorem dX12_keep_40 : decode cX12_keep 40 = .ok (.bipush 7, 2) := by decide +kernel
theorem dX12_keep_42 : decode cX12_keep 42 = .ok (.putfield 254, 3) := by decide +kernel
theorem dX12_keep_45 : decode cX12_keep 45 = .ok (.iconst 0, 1) := by decide +kernel
theorem dX12_keep_46 : decode cX12_keep 46 = .ok (.istore_n 1, 1) := by decide +kernel
theorem dX12_keep_47 : decode cX12_keep 47 = .ok (.iload_n 1, 1) := by decide +kernel
theorem dX12_keep_48 : decode cX12_keep 48 = .ok (.bipush 46, 2) := by decide +kernel
theorem dX12_keep_50 : decode cX12_keep 50 = .ok (.if_icmp .ge 33, 3) := by decide +kernel
theorem dX12_keep_53 : decode cX12_keep 53 = .ok (.aload_n 0, 1) := by decide +kernel
theorem dX12_keep_54 : decode cX12_keep 54 = .ok (.getfield 50, 3) := by decide +kernel
theorem dX12_keep_57 : decode cX12_keep 57 = .ok (.bipush 46, 2) := by decide +kernel
theorem dX12_keep_59 : decode cX12_keep 59 = .ok (.aload_n 0, 1) := by decide +kernel
theorem dX12_keep_60 : decode cX12_keep 60 = .ok (.getfield 254, 3) := by decide +kernel
theorem dX12_keep_63 : decode cX12_keep 63 = .ok (.imul, 1) := by decide +kernel
theorem dX12_keep_64 : decode cX12_keep 64 = .ok (.iload_n 1, 1) := by decide +kernel
theorem dX12_keep_65 : decode cX12_keep 65 = .ok (.iadd, 1) := by decide +kernel
theorem dX12_keep_66 : decode cX12_keep 66 = .ok (.aload_n 0, 1) := by decide +kernel
theorem dX12_keep_67 : decode cX12_keep 67 = .ok (.getfield 33, 3) := by decide +kernel
theorem dX12_keep_70 : decode cX12_keep 70 = .ok (.sipush 140, 3) := by decide +kernel
theorem dX12_keep_73 : decode cX12_keep 73 = .ok (.iload_n 1, 1) := by decide +kernel
theorem dX12_keep_74 : decode cX12_keep 74 = .ok (.iadd, 1) := by decide +kernel
theorem dX12_keep_75 : decode cX12_keep 75 = .ok (.iaload, 1) := by decide +kernel
theorem dX12_keep_76 : decode cX12_keep 76 = .ok (.iastore, 1) := by decide +kernel
theorem dX12_keep_77 : decode cX12_keep 77 = .ok (.iinc 1 1, 3) := by decide +kernel
theorem dX12_keep_80 : decode cX12_keep 80 = .ok (.goto (-33), 3) := by decide +kernel
theorem dX12_keep_83 : decode cX12_keep 83 = .ok (.aload_n 0, 1) := by decide +kernel
theorem dX12_keep_84 : decode cX12_keep 84 = .ok (.dup, 1) := by decide +kernel
theorem dX12_keep_85 : decode cX12_keep 85 = .ok (.getfield 254, 3) := by decide +kernel
theorem dX12_keep_88 : decode cX12_keep 88 = .ok (.iconst 1, 1) := by decide +kernel
theorem dX12_keep_89 : decode cX12_keep 89 = .ok (.iadd, 1) := by decide +kernel
theorem dX12_keep_90 : decode cX12_keep 90 = .ok (.putfield 254, 3) := by decide +kernel
theorem dX12_keep_93 : decode cX12_keep 93 = .ok (.return_, 1) := by decide +kernel
set_option maxRecDepth 100000 in
set_option maxHeartbeats 4000000 in
theorem hk_12_keep (hF : ck_LKf ck_LK) (hM : ck_LKm ck_tags ck_LK ck_tab) (hU : ck_uq ty ck_pvs0) (hun : ck_un ty) (hH1 : ∀ Ex', ck_ExP ty ck_prot1 Ex' → ∀ j, j < 308 → ck_Holds l D cys ty ck_tags ck_pvs0 Ex' (ck_tab j)) (hH : ∀ j, j < 313 → ck_Holds l D cys ty ck_tags ck_pvs0 (GE ty) (ck_tab j)) : ck_Holds l D cys ty ck_tags ck_pvs0 (GE ty) (ck_tab 313) := by
  refine cm_enter (by decide +kernel) (by decide +kernel) (by decide +kernel) ?_
  intro vs pvv0 p e s m below meth c ls ha hp B hl hW
  have hx := B.1
  have hb : c.code = cX12_keep := B.2.1
  have hI := pv_inj
  have hS : va_S (ck_own ty) s.heap s.heap [] := va_S.rf
  obtain ⟨C, hG, hW⟩ := ge_out hW
  obtain ⟨_, rfl, ⟨a0, rfl, t0⟩⟩ := cm_a1 ha
  have hl : lv_has ls 2 [(0, .ref a0)] := hl
  have hp0 := hp
  obtain ⟨bs, ts⟩ := hr_fld hW t0 rfl (j := 6) (t' := 34) rfl
  have k17 := congrArg Int32.toInt (hr_lnk hW (pq := ck_prot1) (fun _ h => h) ts (q := 17) (k := 3) rfl (by decide))
  have k15 := congrArg Int32.toInt (hr_lnk hW (pq := ck_prot1) (fun _ h => h) t0 (q := 15) (k := 22) rfl (by decide))
  have r16 := hr_pd hp0 16 17 (lo := 0) (hi := 6) (a := -6) (b := 0) rfl (by decide)
  have r15 := hr_pv hp0 15 (lo := 0) (hi := 8) rfl
  obtain ⟨G1, G2, G3, G4⟩ := hG
  obtain ⟨A, hA⟩ : ∃ A, (C 34 3).toInt = A := ⟨_, rfl⟩
  have part2 : ∀ (um : Int32) (pvv : Nat → Int32) (D0 : Nat → Nat → Int32) (i : Int32) (ls : Array Slot) (H : Heap) (locs : List Loc), i.toInt = 0 → 0 ≤ um.toInt → um.toInt ≤ 7 → (∀ j, j ≠ 15 → pvv j = pvv0 j) → (∀ t j, t ≠ 37 → ¬ (t = 12 ∧ j = 22) → D0 t j = C t j) → (∀ j : Nat, (j : Int) < um.toInt → (D0 37 (46 * j)).toInt ≤ A) → (D0 12 22).toInt = um.toInt → lv_has ls 2 [(1, .int i), (0, .ref a0)] → ck_Wo D cys ty ck_tags ck_pvs0 (tk ty ck_prot1 D0) pvv H → va_S (ck_own ty) s.heap H locs → W p l e (ck_rm (ck_tab 313)) s m [Value.ref a0].toArray below meth c H locs 0 0 (MQ below (ck_Qc D cys ty ck_tags ck_pvs0 (GE ty) (ck_tab 313) [Value.ref a0] pvv0) [Value.ref a0].toArray s 0 0 (ck_own ty)) (F0 m 47 ls []) := by
    intro um pvv D0 i0 ls0 H0 locs0 hi0 um1 um2 hpv hD hu0 hum0 hl0 hW0 hS0
    have l47 : ∀ (n47 : Nat) (i : Int32) (um : Int32) (C2 : Nat → Nat → Int32) (ls : Array Slot) (H : Heap) (locs : List Loc), 46 - i.toInt < n47 → (0 ≤ i.toInt) → (i.toInt ≤ 46) → (0 ≤ um.toInt) → (um.toInt ≤ 7) → (∀ t j, t ≠ 37 → C2 t j = D0 t j) → (∀ j : Nat, (j : Int) < um.toInt → (C2 37 (46 * j)).toInt ≤ A) → (1 ≤ i.toInt → (C2 37 (46 * um.toInt.toNat)).toInt ≤ A) → ((C2 12 22).toInt = um.toInt) → lv_has ls 2 [(1, .int i), (0, .ref a0)] → ck_Wo D cys ty ck_tags ck_pvs0 (tk ty ck_prot1 C2) pvv H → va_S (ck_own ty) s.heap H locs → W p l e (ck_rm (ck_tab 313)) s m [Value.ref a0].toArray below meth c H locs 0 0 (MQ below (ck_Qc D cys ty ck_tags ck_pvs0 (GE ty) (ck_tab 313) [Value.ref a0] pvv0) [Value.ref a0].toArray s 0 0 (ck_own ty)) (F0 m 47 ls []) := by
      intro n47
      induction n47 with
      | zero => intro i um C2 ls H locs hm47 i1 i2 um1 um2 hC hu h0u hum hl hW hS; omega
      | succ n47 ih47 =>
        intro i um C2 ls H locs hm47 i1 i2 um1 um2 hC hu h0u hum hl hW hS
        refine lv_iload_n hx hb dX12_keep_47 rfl (lv_at hl 0 rfl) ?_
        refine hr_bp hx hb dX12_keep_48 (by decide) (by decide) (fun z48 hz48 => ?_)
        refine hr_ge (tgt := 83) hx hb dX12_keep_50 (by decide) (fun h50 => ?_) (fun h50 => ?_)
        · refine lv_aload_n hx hb dX12_keep_83 rfl (lv_at hl 1 rfl) ?_
          refine lv_dup hx hb dX12_keep_84 rfl ?_
          refine hr_getI B hF hb hW (ci := 12) (j := 22) (cd := 0) t0 rfl (isF (by decide +kernel)) rfl dX12_keep_85 (fun z85 lz85 uz85 pz85 xz85 => ?_)
          have pz85 := congrArg Int32.toInt (pz85 15 rfl)
          have xz85 := tk_xo xz85 (fun _ h => h) (pq := ck_prot1) (C := C2) t0 (by decide); have kz85 := congrArg Int32.toInt xz85
          have e85 : z85.toInt = um.toInt := by rw [kz85]; exact hum
          refine hr_ic hx hb dX12_keep_88 (by decide) (fun z88 hz88 => ?_)
          refine hr_add hx hb dX12_keep_89 (by omega) (by omega) (fun z89 hz89 => ?_)
          refine hr_putP B hF hb hU hW hS (ci := 12) (j := 22) (cd := 0) t0 rfl (isF (by decide +kernel)) rfl (by omega) (by omega) (Or.inl rfl) (tk_EO t0 (fun a h => hun 12 (by decide) _ _ t0 h) (by decide)) hI (q0 := 15) rfl dX12_keep_90 (fun H locs hW hS => ?_)
          obtain ⟨pvv90, e90⟩ : ∃ f, f = upd pvv 15 z89 := ⟨_, rfl⟩
          rw [← e90] at hW
          have e90q : pvv90 15 = z89 := by rw [e90, pk_us]
          have e90qi := congrArg Int32.toInt e90q
          obtain ⟨C90, c90⟩ : ∃ f, f = tk_upd C2 12 (22) z89 := ⟨_, rfl⟩
          rw [← c90] at hW
          have h0u := h0u (by omega)
          refine cm_vret B hb rfl ⟨_, List.mem_cons_self, True.intro, (fun q h => nomatch h), ?_⟩ (ge_in hW ?_) hS dX12_keep_93
          · refine hr_mk (n := 25) [15] hp0 (fun j h1 h2 => by rw [e90, pk_un (fun q => h2 (by rw [q]; decide))]; exact hpv j (fun q => h2 (by rw [q]; decide))) (by decide +kernel) (fun j hj av hav => ?_)
            obtain rfl := List.mem_singleton.mp hj
            have hav : some (.inl (1, 8, []) : ck_AV) = some av := hav
            cases hav
            exact hr_aI (by omega) (by omega)
          · have hCC : ∀ t j, t ≠ 37 → ¬ (t = 12 ∧ j = 22) → C90 t j = C t j := fun t j h1 h2 => by rw [c90, tk_un h2, hC t j h1]; exact hD t j h1 h2
            refine ⟨fun k hk => ?_, fun j hj => ?_, fun k hk hk2 => ?_, ?_⟩
            · rw [hCC 0 0 (by decide) (by decide)] at hk
              rw [hCC 29 k (by decide) (by simp), hCC 30 k (by decide) (by simp), hCC 31 k (by decide) (by simp)]
              exact G1 k hk
            · rw [hCC 34 3 (by decide) (by decide), hA]
              rw [show C90 12 22 = z89 by rw [c90, tk_us]] at hj
              rw [show C90 37 (46 * j) = C2 37 (46 * j) by rw [c90, tk_unt (by decide)]]
              by_cases e9 : (j : Int) < um.toInt
              · exact hu j e9
              · rw [show j = um.toInt.toNat by omega]; exact h0u
            · rw [hCC 46 k (by decide) (by simp)] at hk2
              rw [hCC 45 _ (by decide) (by simp), hCC 45 _ (by decide) (by simp)]
              refine ⟨(G3 k hk hk2).1, ?_⟩
              have e9 : (fun i => C90 45 (367 * k + 186 + i)) = (fun i => C 45 (367 * k + 186 + i)) := funext (fun i => hCC 45 _ (by decide) (by simp))
              rw [e9]; exact (G3 k hk hk2).2
            · have e9 : (fun i => C90 34 (186 + i)) = (fun i => C 34 (186 + i)) := funext (fun i => hCC 34 _ (by decide) (by simp))
              unfold g4C; rw [e9]; exact G4
        · refine lv_aload_n hx hb dX12_keep_53 rfl (lv_at hl 1 rfl) ?_
          refine hr_getR B hF hb hW (ci := 12) (j := 20) (cd := 3) t0 rfl (isF (by decide +kernel)) rfl dX12_keep_54 (fun az54 tz54 xz54 => ?_)
          refine hr_bp hx hb dX12_keep_57 (by decide) (by decide) (fun z57 hz57 => ?_)
          refine lv_aload_n hx hb dX12_keep_59 rfl (lv_at hl 1 rfl) ?_
          refine hr_getI B hF hb hW (ci := 12) (j := 22) (cd := 0) t0 rfl (isF (by decide +kernel)) rfl dX12_keep_60 (fun z60 lz60 uz60 pz60 xz60 => ?_)
          have pz60 := congrArg Int32.toInt (pz60 15 rfl)
          have xz60 := tk_xo xz60 (fun _ h => h) (pq := ck_prot1) (C := C2) t0 (by decide); have kz60 := congrArg Int32.toInt xz60
          have e60 : z60.toInt = um.toInt := by rw [kz60]; exact hum
          refine hr_mulL hx hb dX12_keep_63 hz57 (by omega) (by omega) (fun z63 hz63 => ?_)
          refine lv_iload_n hx hb dX12_keep_64 rfl (lv_at hl 0 rfl) ?_
          refine hr_add hx hb dX12_keep_65 (by omega) (by omega) (fun z65 hz65 => ?_)
          refine lv_aload_n hx hb dX12_keep_66 rfl (lv_at hl 1 rfl) ?_
          refine hr_getR B hF hb hW (ci := 12) (j := 6) (cd := 3) t0 rfl (isF (by decide +kernel)) rfl dX12_keep_67 (fun az67 tz67 xz67 => ?_)
          refine hr_sp hx hb dX12_keep_70 (by decide) (by decide) (fun z70 hz70 => ?_)
          refine lv_iload_n hx hb dX12_keep_73 rfl (lv_at hl 0 rfl) ?_
          refine hr_add hx hb dX12_keep_74 (by omega) (by omega) (fun z74 hz74 => ?_)
          refine hr_iald B hb hW tz67 rfl (by omega) (by omega) dX12_keep_75 (fun z75 iz75 pz75 xz75 => ?_)
          have e1 := sg_US um.toInt.toNat (by omega) i.toInt.toNat (by omega)
          rw [show 46 * um.toInt.toNat + i.toInt.toNat = z65.toInt.toNat by omega, show 140 + i.toInt.toNat = z74.toInt.toNat by omega] at e1
          refine hr_iastN (Ex' := tk ty ck_prot1 (tk_upd C2 37 (z65.toInt.toNat) z75)) B hb hU hW hS tz54 rfl (by omega) (by omega) (by unfold ck_in; rw [e1]; exact iz75) (tk_EA tz54 (fun a h => hun 37 (by decide) _ _ tz54 h)) (u := 0) (v := 367) (by omega) (by omega) (by decide +kernel) dX12_keep_76 (fun H locs hW hS => ?_)
          obtain ⟨C76, c76⟩ : ∃ f, f = tk_upd C2 37 (z65.toInt.toNat) z75 := ⟨_, rfl⟩
          rw [← c76] at hW
          refine hr_inc hx hb dX12_keep_77 hl (kq := 0) (lv' := fun v => [(1, .int v), (0, .ref a0)]) rfl (by decide) (by decide) (by omega) (by omega) (fun _ => rfl) (fun z77 ls hz77 hl => ?_)
          refine lv_goto (tgt := 47) hx hb dX12_keep_80 (by decide) ?_
          refine ih47 z77 um C76 _ _ _ (by omega) (by omega) (by omega) (by omega) (by omega) (fun t j ht => ?_) (fun j hj => ?_) (fun _ => ?_) (by rw [c76, tk_unt (by decide)]; exact hum) hl hW hS
          · rw [c76, tk_unt ht]; exact hC t j ht
          · rw [c76, tk_unj (by omega)]; exact hu j hj
          · by_cases h0 : i.toInt = 0
            · rw [show 46 * um.toInt.toNat = z65.toInt.toNat by omega, c76, tk_us]
              have := congrArg Int32.toInt (pz75 16 (by rw [show z74.toInt.toNat = 140 by omega]; rfl))
              rw [this, hpv 16 (by decide)]; omega
            · rw [c76, tk_unj (by omega)]; exact h0u (by omega)
    exact l47 47 i0 um D0 _ _ _ (by omega) (by omega) (by omega) um1 um2 (fun _ _ _ => rfl) hu0 (fun h => absurd h (by omega)) hum0 hl0 hW0 hS0
  have l11 : ∀ (n11 : Nat) (i : Int32) (C2 : Nat → Nat → Int32) (ls : Array Slot) (H : Heap) (locs : List Loc), 322 - i.toInt < n11 → (0 ≤ i.toInt) → (i.toInt ≤ 322) → (∀ t j, t ≠ 37 → C2 t j = C t j) → (∀ j : Nat, (j : Int) < 8 → (C2 37 (46 * j)).toInt ≤ A) → lv_has ls 2 [(1, .int i), (0, .ref a0)] → ck_Wo D cys ty ck_tags ck_pvs0 (tk ty ck_prot1 C2) pvv0 H → va_S (ck_own ty) s.heap H locs → W p l e (ck_rm (ck_tab 313)) s m [Value.ref a0].toArray below meth c H locs 0 0 (MQ below (ck_Qc D cys ty ck_tags ck_pvs0 (GE ty) (ck_tab 313) [Value.ref a0] pvv0) [Value.ref a0].toArray s 0 0 (ck_own ty)) (F0 m 11 ls []) := by
    intro n11
    induction n11 with
    | zero => intro i C2 ls H locs hm11 i1 i2 hC hu hl hW hS; omega
    | succ n11 ih11 =>
      intro i C2 ls H locs hm11 i1 i2 hC hu hl hW hS
      refine lv_iload_n hx hb dX12_keep_11 rfl (lv_at hl 0 rfl) ?_
      refine hr_sp hx hb dX12_keep_12 (by decide) (by decide) (fun z12 hz12 => ?_)
      refine hr_ge (tgt := 39) hx hb dX12_keep_15 (by decide) (fun h15 => ?_) (fun h15 => ?_)
      · refine lv_aload_n hx hb dX12_keep_39 rfl (lv_at hl 1 rfl) ?_
        refine hr_bp hx hb dX12_keep_40 (by decide) (by decide) (fun z40 hz40 => ?_)
        refine hr_putP B hF hb hU hW hS (ci := 12) (j := 22) (cd := 0) t0 rfl (isF (by decide +kernel)) rfl (by omega) (by omega) (Or.inl rfl) (tk_EO t0 (fun a h => hun 12 (by decide) _ _ t0 h) (by decide)) hI (q0 := 15) rfl dX12_keep_42 (fun H locs hW hS => ?_)
        obtain ⟨pvv42, e42⟩ : ∃ f, f = upd pvv0 15 z40 := ⟨_, rfl⟩
        rw [← e42] at hW
        have e42q : pvv42 15 = z40 := by rw [e42, pk_us]
        have e42qi := congrArg Int32.toInt e42q
        obtain ⟨C42, c42⟩ : ∃ f, f = tk_upd C2 12 (22) z40 := ⟨_, rfl⟩
        rw [← c42] at hW
        refine hr_ic hx hb dX12_keep_45 (by decide) (fun z45 hz45 => ?_)
        refine lv_istore_n hx hb dX12_keep_46 rfl hl (lv' := [(1, .int z45), (0, .ref a0)]) (by decide) rfl (fun ls hl => ?_)
        exact part2 z40 pvv42 C42 z45 _ _ _ (by omega) (by omega) (by omega) (fun j hj => by rw [e42]; exact pk_un hj) (fun t j h1 h2 => by rw [c42, tk_un h2]; exact hC t j h1) (fun j hj => by rw [c42, tk_unt (by decide)]; exact hu j (by omega)) (by rw [c42, tk_us]) (lv_sub hl [0, 1] rfl) hW hS
      · refine lv_aload_n hx hb dX12_keep_18 rfl (lv_at hl 1 rfl) ?_
        refine hr_getR B hF hb hW (ci := 12) (j := 20) (cd := 3) t0 rfl (isF (by decide +kernel)) rfl dX12_keep_19 (fun az19 tz19 xz19 => ?_)
        refine lv_iload_n hx hb dX12_keep_22 rfl (lv_at hl 0 rfl) ?_
        refine lv_aload_n hx hb dX12_keep_23 rfl (lv_at hl 1 rfl) ?_
        refine hr_getR B hF hb hW (ci := 12) (j := 20) (cd := 3) t0 rfl (isF (by decide +kernel)) rfl dX12_keep_24 (fun az24 tz24 xz24 => ?_)
        refine lv_iload_n hx hb dX12_keep_27 rfl (lv_at hl 0 rfl) ?_
        refine hr_bp hx hb dX12_keep_28 (by decide) (by decide) (fun z28 hz28 => ?_)
        refine hr_add hx hb dX12_keep_30 (by omega) (by omega) (fun z30 hz30 => ?_)
        refine hr_iald B hb hW tz24 rfl (by omega) (by omega) dX12_keep_31 (fun z31 iz31 pz31 xz31 => ?_)
        have e1 := sg_UU i.toInt.toNat (by omega)
        rw [show i.toInt.toNat + 46 = z30.toInt.toNat by omega] at e1
        refine hr_iastN (Ex' := tk ty ck_prot1 (tk_upd C2 37 (i.toInt.toNat) z31)) B hb hU hW hS tz19 rfl (by omega) (by omega) (by unfold ck_in; rw [e1]; exact iz31) (tk_EA tz19 (fun a h => hun 37 (by decide) _ _ tz19 h)) (u := 0) (v := 367) (by omega) (by omega) (by decide +kernel) dX12_keep_32 (fun H locs hW hS => ?_)
        obtain ⟨C32, c32⟩ : ∃ f, f = tk_upd C2 37 (i.toInt.toNat) z31 := ⟨_, rfl⟩
        rw [← c32] at hW
        refine hr_inc hx hb dX12_keep_33 hl (kq := 0) (lv' := fun v => [(1, .int v), (0, .ref a0)]) rfl (by decide) (by decide) (by omega) (by omega) (fun _ => rfl) (fun z33 ls hz33 hl => ?_)
        refine lv_goto (tgt := 11) hx hb dX12_keep_36 (by decide) ?_
        refine ih11 z33 C32 _ _ _ (by omega) (by omega) (by omega) (fun t j ht => ?_) (fun j hj => ?_) hl hW hS
        · rw [c32, tk_unt ht]; exact hC t j ht
        · by_cases e9 : 46 * j = i.toInt.toNat
          · rw [e9, c32, tk_us]
            have x9 := tk_xa xz31 (fun _ h => h) (pq := ck_prot1) (C := C2) tz24 ⟨(46 * (j + 1), 46 * (j + 1)), by (have : j = 0 ∨ j = 1 ∨ j = 2 ∨ j = 3 ∨ j = 4 ∨ j = 5 ∨ j = 6 := by omega); rcases this with rfl | rfl | rfl | rfl | rfl | rfl | rfl <;> decide, by dsimp only; omega, by dsimp only; omega⟩
            rw [x9, show z30.toInt.toNat = 46 * (j + 1) by omega]; exact hu (j + 1) (by omega)
          · rw [c32, tk_unj e9]; exact hu j hj
  refine lv_aload_n hx hb dX12_keep_0 rfl (lv_at hl 0 rfl) ?_
  refine hr_getI B hF hb hW (ci := 12) (j := 22) (cd := 0) t0 rfl (isF (by decide +kernel)) rfl dX12_keep_1 (fun z1 lz1 uz1 pz1 xz1 => ?_)
  have pz1 := congrArg Int32.toInt (pz1 15 rfl)
  have xz1 := tk_xo xz1 (fun _ h => h) (pq := ck_prot1) (C := C) t0 (by decide); have kz1 := congrArg Int32.toInt xz1
  refine hr_bp hx hb dX12_keep_4 (by decide) (by decide) (fun z4 hz4 => ?_)
  refine hr_ne (tgt := 45) hx hb dX12_keep_6 (by decide) (fun h6 => ?_) (fun h6 => ?_)
  · refine hr_ic hx hb dX12_keep_45 (by decide) (fun z45 hz45 => ?_)
    refine lv_istore_n hx hb dX12_keep_46 rfl hl (lv' := [(1, .int z45), (0, .ref a0)]) (by decide) rfl (fun ls hl => ?_)
    exact part2 z1 pvv0 C z45 _ _ _ (by omega) (by omega) (by omega) (fun _ _ => rfl) (fun _ _ _ _ => rfl) (fun j hj => by have := G2 j (by omega); omega) (by omega) (lv_sub hl [0, 1] rfl) hW hS
  · refine hr_ic hx hb dX12_keep_9 (by decide) (fun z9 hz9 => ?_)
    refine lv_istore_n hx hb dX12_keep_10 rfl hl (lv' := [(1, .int z9), (0, .ref a0)]) (by decide) rfl (fun ls hl => ?_)
    exact l11 323 z9 C _ _ _ (by omega) (by omega) (by omega) (fun _ _ _ => rfl) (fun j hj => by have := G2 j (by omega); omega) hl hW hS
theorem dX12_undo_0 : decode cX12_undo 0 = .ok (.aload_n 0, 1) := by decide +kernel
theorem dX12_undo_1 : decode cX12_undo 1 = .ok (.iconst 0, 1) := by decide +kernel
theorem dX12_undo_2 : decode cX12_undo 2 = .ok (.putfield 1, 3) := by decide +kernel
theorem dX12_undo_5 : decode cX12_undo 5 = .ok (.aload_n 0, 1) := by decide +kernel
theorem dX12_undo_6 : decode cX12_undo 6 = .ok (.getfield 254, 3) := by decide +kernel
theorem dX12_undo_9 : decode cX12_undo 9 = .ok (.ifCond .ne 5, 3) := by decide +kernel
theorem dX12_undo_12 : decode cX12_undo 12 = .ok (.iconst (-1), 1) := by decide +kernel
theorem dX12_undo_13 : decode cX12_undo 13 = .ok (.ireturn, 1) := by decide +kernel
theorem dX12_undo_14 : decode cX12_undo 14 = .ok (.aload_n 0, 1) := by decide +kernel
theorem dX12_undo_15 : decode cX12_undo 15 = .ok (.dup, 1) := by decide +kernel
theorem dX12_undo_16 : decode cX12_undo 16 = .ok (.getfield 254, 3) := by decide +kernel
theorem dX12_undo_19 : decode cX12_undo 19 = .ok (.iconst 1, 1) := by decide +kernel
theorem dX12_undo_20 : decode cX12_undo 20 = .ok (.isub, 1) := by decide +kernel
theorem dX12_undo_21 : decode cX12_undo 21 = .ok (.putfield 254, 3) := by decide +kernel
theorem dX12_undo_24 : decode cX12_undo 24 = .ok (.iconst 0, 1) := by decide +kernel
theorem dX12_undo_25 : decode cX12_undo 25 = .ok (.istore_n 1, 1) := by decide +kernel
theorem dX12_undo_26 : decode cX12_undo 26 = .ok (.iload_n 1, 1) := by decide +kernel
theorem dX12_undo_27 : decode cX12_undo 27 = .ok (.bipush 46, 2) := by decide +kernel
theorem dX12_undo_29 : decode cX12_undo 29 = .ok (.if_icmp .ge 33, 3) := by decide +kernel
theorem dX12_undo_32 : decode cX12_undo 32 = .ok (.aload_n 0, 1) := by decide +kernel
theorem dX12_undo_33 : decode cX12_undo 33 = .ok (.getfield 33, 3) := by decide +kernel
theorem dX12_undo_36 : decode cX12_undo 36 = .ok (.sipush 140, 3) := by decide +kernel
theorem dX12_undo_39 : decode cX12_undo 39 = .ok (.iload_n 1, 1) := by decide +kernel
theorem dX12_undo_40 : decode cX12_undo 40 = .ok (.iadd, 1) := by decide +kernel
theorem dX12_undo_41 : decode cX12_undo 41 = .ok (.aload_n 0, 1) := by decide +kernel
theorem dX12_undo_42 : decode cX12_undo 42 = .ok (.getfield 50, 3) := by decide +kernel
theorem dX12_undo_45 : decode cX12_undo 45 = .ok (.bipush 46, 2) := by decide +kernel
theorem dX12_undo_47 : decode cX12_undo 47 = .ok (.aload_n 0, 1) := by decide +kernel
theorem dX12_undo_48 : decode cX12_undo 48 = .ok (.getfield 254, 3) := by decide +kernel
theorem dX12_undo_51 : decode cX12_undo 51 = .ok (.imul, 1) := by decide +kernel
theorem dX12_undo_52 : decode cX12_undo 52 = .ok (.iload_n 1, 1) := by decide +kernel
theorem dX12_undo_53 : decode cX12_undo 53 = .ok (.iadd, 1) := by decide +kernel
theorem dX12_undo_54 : decode cX12_undo 54 = .ok (.iaload, 1) := by decide +kernel
theorem dX12_undo_55 : decode cX12_undo 55 = .ok (.iastore, 1) := by decide +kernel
theorem dX12_undo_56 : decode cX12_undo 56 = .ok (.iinc 1 1, 3) := by decide +kernel
theorem dX12_undo_59 : decode cX12_undo 59 = .ok (.goto (-33), 3) := by decide +kernel
theorem dX12_undo_62 : decode cX12_undo 62 = .ok (.aload_n 0, 1) := by decide +kernel
theorem dX12_undo_63 : decode cX12_undo 63 = .ok (.getfield 254, 3) := by decide +kernel
theorem dX12_undo_66 : decode cX12_undo 66 = .ok (.ireturn, 1) := by decide +kernel
set_option maxRecDepth 100000 in
set_option maxHeartbeats 4000000 in
theorem hk_12_undo (hF : ck_LKf ck_LK) (hM : ck_LKm ck_tags ck_LK ck_tab) (hU : ck_uq ty ck_pvs0) (hun : ck_un ty) (hH1 : ∀ Ex', ck_ExP ty ck_prot1 Ex' → ∀ j, j < 308 → ck_Holds l D cys ty ck_tags ck_pvs0 Ex' (ck_tab j)) (hH : ∀ j, j < 325 → ck_Holds l D cys ty ck_tags ck_pvs0 (GE ty) (ck_tab j)) : ck_Holds l D cys ty ck_tags ck_pvs0 (GE ty) (ck_tab 325) := by
  refine cm_enter (by decide +kernel) (by decide +kernel) (by decide +kernel) ?_
  intro vs pvv0 p e s m below meth c ls ha hp B hl hW
  have hx := B.1
  have hb : c.code = cX12_undo := B.2.1
  have hI := pv_inj
  have hS : va_S (ck_own ty) s.heap s.heap [] := va_S.rf
  obtain ⟨C, hG, hW⟩ := ge_out hW
  obtain ⟨_, rfl, ⟨a0, rfl, t0⟩⟩ := cm_a1 ha
  have hl : lv_has ls 2 [(0, .ref a0)] := hl
  have hp0 := hp
  obtain ⟨bs, ts⟩ := hr_fld hW t0 rfl (j := 6) (t' := 34) rfl
  have k17 := congrArg Int32.toInt (hr_lnk hW (pq := ck_prot1) (fun _ h => h) ts (q := 17) (k := 3) rfl (by decide))
  have r15 := hr_pv hp0 15 (lo := 0) (hi := 8) rfl
  have r17 := hr_pv hp0 17 (lo := 0) (hi := 6) rfl
  have hG0 := hG
  obtain ⟨G1, G2, G3, G4⟩ := hG
  refine lv_aload_n hx hb dX12_undo_0 rfl (lv_at hl 0 rfl) ?_
  refine hr_ic hx hb dX12_undo_1 (by decide) (fun z1 hz1 => ?_)
  refine hr_putN B hF hb hU hW hS (ci := 12) (j := 0) (cd := 0) t0 rfl (isF (by decide +kernel)) rfl (by omega) (by omega) (Or.inl rfl) (hr_EO (tk_X1 (C := C)) t0 (by decide)) (by decide) dX12_undo_2 (fun H locs hW hS => ?_)
  refine lv_aload_n hx hb dX12_undo_5 rfl (lv_at hl 0 rfl) ?_
  refine hr_getI B hF hb hW (ci := 12) (j := 22) (cd := 0) t0 rfl (isF (by decide +kernel)) rfl dX12_undo_6 (fun z6 lz6 uz6 pz6 xz6 => ?_)
  have pz6 := congrArg Int32.toInt (pz6 15 rfl)
  have xz6 := tk_xo xz6 (fun _ h => h) (pq := ck_prot1) (C := C) t0 (by decide); have kz6 := congrArg Int32.toInt xz6
  refine hr_ne0 (tgt := 14) hx hb dX12_undo_9 (by decide) (fun h9 => ?_) (fun h9 => ?_)
  · refine lv_aload_n hx hb dX12_undo_14 rfl (lv_at hl 0 rfl) ?_
    refine lv_dup hx hb dX12_undo_15 rfl ?_
    refine hr_getI B hF hb hW (ci := 12) (j := 22) (cd := 0) t0 rfl (isF (by decide +kernel)) rfl dX12_undo_16 (fun z16 lz16 uz16 pz16 xz16 => ?_)
    have pz16 := congrArg Int32.toInt (pz16 15 rfl)
    have xz16 := tk_xo xz16 (fun _ h => h) (pq := ck_prot1) (C := C) t0 (by decide); have kz16 := congrArg Int32.toInt xz16
    refine hr_ic hx hb dX12_undo_19 (by decide) (fun z19 hz19 => ?_)
    refine hr_sub hx hb dX12_undo_20 (by omega) (by omega) (fun z20 hz20 => ?_)
    refine hr_putP B hF hb hU hW hS (ci := 12) (j := 22) (cd := 0) t0 rfl (isF (by decide +kernel)) rfl (by omega) (by omega) (Or.inl rfl) (tk_EO t0 (fun a h => hun 12 (by decide) _ _ t0 h) (by decide)) hI (q0 := 15) rfl dX12_undo_21 (fun H locs hW hS => ?_)
    obtain ⟨pvv21, e21⟩ : ∃ f, f = upd pvv0 15 z20 := ⟨_, rfl⟩
    rw [← e21] at hW
    have e21q : pvv21 15 = z20 := by rw [e21, pk_us]
    have e21qi := congrArg Int32.toInt e21q
    obtain ⟨C21, c21⟩ : ∃ f, f = tk_upd C 12 (22) z20 := ⟨_, rfl⟩
    rw [← c21] at hW
    refine hr_ic hx hb dX12_undo_24 (by decide) (fun z24 hz24 => ?_)
    refine lv_istore_n hx hb dX12_undo_25 rfl hl (lv' := [(1, .int z24), (0, .ref a0)]) (by decide) rfl (fun ls hl => ?_)
    have l26 : ∀ (n26 : Nat) (i : Int32) (pvv : Nat → Int32) (ls : Array Slot) (H : Heap) (locs : List Loc), 46 - i.toInt < n26 → (0 ≤ i.toInt) → (i.toInt ≤ 46) → (∀ j, j ≠ 16 → pvv j = pvv21 j) → (1 ≤ i.toInt → 0 ≤ (pvv 16).toInt ∧ (pvv 16).toInt ≤ 6 ∧ (pvv 16).toInt ≤ (pvv0 17).toInt) → lv_has ls 2 [(1, .int i), (0, .ref a0)] → ck_Wo D cys ty ck_tags ck_pvs0 (tk ty ck_prot1 C21) pvv H → va_S (ck_own ty) s.heap H locs → W p l e (ck_rm (ck_tab 325)) s m [Value.ref a0].toArray below meth c H locs 0 0 (MQ below (ck_Qc D cys ty ck_tags ck_pvs0 (GE ty) (ck_tab 325) [Value.ref a0] pvv0) [Value.ref a0].toArray s 0 0 (ck_own ty)) (F0 m 26 ls []) := by
      intro n26
      induction n26 with
      | zero => intro i pvv ls H locs hm26 i1 i2 hq hb1 hl hW hS; omega
      | succ n26 ih26 =>
        intro i pvv ls H locs hm26 i1 i2 hq hb1 hl hW hS
        refine lv_iload_n hx hb dX12_undo_26 rfl (lv_at hl 0 rfl) ?_
        refine hr_bp hx hb dX12_undo_27 (by decide) (by decide) (fun z27 hz27 => ?_)
        refine hr_ge (tgt := 62) hx hb dX12_undo_29 (by decide) (fun h29 => ?_) (fun h29 => ?_)
        · refine lv_aload_n hx hb dX12_undo_62 rfl (lv_at hl 1 rfl) ?_
          refine hr_getI B hF hb hW (ci := 12) (j := 22) (cd := 0) t0 rfl (isF (by decide +kernel)) rfl dX12_undo_63 (fun z63 lz63 uz63 pz63 xz63 => ?_)
          have pz63 := congrArg Int32.toInt (pz63 15 rfl)
          have xz63 := tk_xo xz63 (fun _ h => h) (pq := ck_prot1) (C := C21) t0 (by decide); have kz63 := congrArg Int32.toInt xz63
          have hb1 := hb1 (by omega)
          have s17 : (pvv 17).toInt = (pvv0 17).toInt := by rw [hq 17 (by decide), e21, pk_un (by decide)]
          have s15 : (pvv 15).toInt = z20.toInt := by rw [hq 15 (by decide), e21q]
          refine cm_iret B hb rfl ⟨_, List.mem_cons_of_mem _ List.mem_cons_self, hr_aI (ty := ty) (by omega) (by omega), (fun q h => nomatch h), ?_⟩ (ge_in hW ?_) hS dX12_undo_66
          · refine hr_mk (n := 25) [15, 16] hp0 (fun j h1 h2 => by rw [hq j (fun q => h2 (by rw [q]; decide)), e21, pk_un (fun q => h2 (by rw [q]; decide))]) (by decide +kernel) (fun j hj av hav => ?_)
            rcases List.mem_cons.mp hj with rfl | hj
            · have hav : some (.inl (0, 7, []) : ck_AV) = some av := hav
              cases hav
              exact hr_aI (by omega) (by omega)
            · obtain rfl := List.mem_singleton.mp hj
              have hav : some (.inl (0, 6, [(2034, -6, 0)]) : ck_AV) = some av := hav
              cases hav
              exact hr_vd (q := 17) (by omega) (by omega) (by omega) (by omega)
          · have hCC : ∀ t j, ¬ (t = 12 ∧ j = 22) → C21 t j = C t j := fun t j h2 => by rw [c21, tk_un h2]
            refine ⟨fun k hk => ?_, fun j hj => ?_, fun k hk hk2 => ?_, ?_⟩
            · rw [hCC 0 0 (by decide)] at hk
              rw [hCC 29 k (by simp), hCC 30 k (by simp), hCC 31 k (by simp)]
              exact G1 k hk
            · rw [show C21 12 22 = z20 by rw [c21, tk_us]] at hj
              rw [hCC 37 _ (by simp), hCC 34 _ (by simp)]
              exact G2 j (by omega)
            · rw [hCC 46 k (by simp)] at hk2
              rw [hCC 45 _ (by simp), hCC 45 _ (by simp)]
              refine ⟨(G3 k hk hk2).1, ?_⟩
              have e9 : (fun i => C21 45 (367 * k + 186 + i)) = (fun i => C 45 (367 * k + 186 + i)) := funext (fun i => hCC 45 _ (by simp))
              rw [e9]; exact (G3 k hk hk2).2
            · have e9 : (fun i => C21 34 (186 + i)) = (fun i => C 34 (186 + i)) := funext (fun i => hCC 34 _ (by simp))
              unfold g4C; rw [e9]; exact G4
        · refine lv_aload_n hx hb dX12_undo_32 rfl (lv_at hl 1 rfl) ?_
          refine hr_getR B hF hb hW (ci := 12) (j := 6) (cd := 3) t0 rfl (isF (by decide +kernel)) rfl dX12_undo_33 (fun az33 tz33 xz33 => ?_)
          refine hr_sp hx hb dX12_undo_36 (by decide) (by decide) (fun z36 hz36 => ?_)
          refine lv_iload_n hx hb dX12_undo_39 rfl (lv_at hl 0 rfl) ?_
          refine hr_add hx hb dX12_undo_40 (by omega) (by omega) (fun z40 hz40 => ?_)
          refine lv_aload_n hx hb dX12_undo_41 rfl (lv_at hl 1 rfl) ?_
          refine hr_getR B hF hb hW (ci := 12) (j := 20) (cd := 3) t0 rfl (isF (by decide +kernel)) rfl dX12_undo_42 (fun az42 tz42 xz42 => ?_)
          refine hr_bp hx hb dX12_undo_45 (by decide) (by decide) (fun z45 hz45 => ?_)
          refine lv_aload_n hx hb dX12_undo_47 rfl (lv_at hl 1 rfl) ?_
          refine hr_getI B hF hb hW (ci := 12) (j := 22) (cd := 0) t0 rfl (isF (by decide +kernel)) rfl dX12_undo_48 (fun z48 lz48 uz48 pz48 xz48 => ?_)
          have pz48 := congrArg Int32.toInt (pz48 15 rfl)
          have xz48 := tk_xo xz48 (fun _ h => h) (pq := ck_prot1) (C := C21) t0 (by decide); have kz48 := congrArg Int32.toInt xz48
          have e48 : z48.toInt = z20.toInt := by rw [kz48, c21, tk_us]
          refine hr_mulL hx hb dX12_undo_51 hz45 (by omega) (by omega) (fun z51 hz51 => ?_)
          refine lv_iload_n hx hb dX12_undo_52 rfl (lv_at hl 0 rfl) ?_
          refine hr_add hx hb dX12_undo_53 (by omega) (by omega) (fun z53 hz53 => ?_)
          refine hr_iald B hb hW tz42 rfl (by omega) (by omega) dX12_undo_54 (fun z54 iz54 pz54 xz54 => ?_)
          have e1 := sg_US z20.toInt.toNat (by omega) i.toInt.toNat (by omega)
          rw [show 46 * z20.toInt.toNat + i.toInt.toNat = z53.toInt.toNat by omega, show 140 + i.toInt.toNat = z40.toInt.toNat by omega] at e1
          refine hr_iastG B hb hU hW hS tz33 rfl (by omega) (by omega) (by unfold ck_in; rw [← e1]; exact iz54) (hr_EA (i := z40) tk_X1 tz33 (u := 140) (v := 185) (by omega) (by omega) (by decide)) dX12_undo_55 (fun H locs pvv' hW hS w1 w2 => ?_)
          refine hr_inc hx hb dX12_undo_56 hl (kq := 0) (lv' := fun v => [(1, .int v), (0, .ref a0)]) rfl (by decide) (by decide) (by omega) (by omega) (fun _ => rfl) (fun z56 ls hz56 hl => ?_)
          refine lv_goto (tgt := 26) hx hb dX12_undo_59 (by decide) ?_
          refine ih26 z56 pvv' _ _ _ (by omega) (by omega) (by omega) (fun j hj => ?_) (fun _ => ?_) hl hW hS
          · refine (w2 j (fun h9 => ?_)).trans (hq j hj)
            rcases pv_o2 (a := 16) (b := 140) (a' := 17) (b' := 3) (by decide +kernel) h9 with h | h <;> omega
          · by_cases h0 : i.toInt = 0
            · rw [w1 16 (by rw [show z40.toInt.toNat = 140 by omega]; rfl)]
              have x9 := tk_xa xz54 (fun _ h => h) (pq := ck_prot1) (C := C21) tz42 ⟨(46 * z20.toInt.toNat, 46 * z20.toInt.toNat), by (have : z20.toInt.toNat = 0 ∨ z20.toInt.toNat = 1 ∨ z20.toInt.toNat = 2 ∨ z20.toInt.toNat = 3 ∨ z20.toInt.toNat = 4 ∨ z20.toInt.toNat = 5 ∨ z20.toInt.toNat = 6 ∨ z20.toInt.toNat = 7 := by omega); rcases this with h | h | h | h | h | h | h | h <;> rw [h] <;> decide, by dsimp only; omega, by dsimp only; omega⟩
              have i9 := hr_inr (a := z53.toInt.toNat) (b := z53.toInt.toNat) iz54 (Nat.le_refl _) (Nat.le_refl _) (lo := 0) (hi := 6) (by rw [show z53.toInt.toNat = 46 * z20.toInt.toNat by omega]; (have : z20.toInt.toNat = 0 ∨ z20.toInt.toNat = 1 ∨ z20.toInt.toNat = 2 ∨ z20.toInt.toNat = 3 ∨ z20.toInt.toNat = 4 ∨ z20.toInt.toNat = 5 ∨ z20.toInt.toNat = 6 ∨ z20.toInt.toNat = 7 := by omega); rcases this with h | h | h | h | h | h | h | h <;> rw [h] <;> decide)
              rw [show z53.toInt.toNat = 46 * z20.toInt.toNat by omega, c21, tk_unt (by decide)] at x9
              have x8 := congrArg Int32.toInt x9
              have x7 := G2 z20.toInt.toNat (by omega)
              omega
            · have e9 := w2 16 (fun h9 => by rcases pv_o2 (a := 16) (b := 140) (a' := 17) (b' := 3) (by decide +kernel) h9 with h | h <;> omega)
              rw [e9]; exact hb1 (by omega)
    exact l26 47 z24 pvv21 _ _ _ (by omega) (by omega) (by omega) (fun _ _ => rfl) (fun h => absurd h (by omega)) hl hW hS
  · refine hr_ic hx hb dX12_undo_12 (by decide) (fun z12 hz12 => ?_)
    exact cm_iret B hb rfl ⟨_, List.mem_cons_self, hr_aI (ty := ty) (by omega) (by omega), (fun q h => nomatch h), hr_wk (hr_self hp0) (by decide +kernel)⟩ (ge_in hW hG0) hS dX12_undo_13
end H27
end
