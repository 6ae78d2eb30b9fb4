/-! printed by a program of ours: contracts as data -/
/-- 0: RecastStage$Reader.isAtName -/
def kc_0 : ck_K := (yX8_isAtName, cX8_isAtName, 1, (some .boolean), 8, [.inr (.inl 8)], pP, [(some (.inl (0, 0, [])), [], pU), (some (.inl (1, 1, [])), [], pU)], 1, 12, [])
/-- 1: RecastStage$Book.canBegin -/
def kc_1 : ck_K := (yX0_canBegin, cX0_canBegin, 2, (some .boolean), 0, [.inr (.inl 8), cF], pP, [(some (.inl (0, 0, [])), [], pU), (some (.inl (1, 1, [])), [], pU)], 2, 32, [])
/-- 2: RecastStage.has -/
def kc_2 : ck_K := (yX11_has, cX11_has, 2, (some .boolean), 11, [cF, cF], pP, [(some (.inl (0, 0, [])), [], pU), (some (.inl (1, 1, [])), [], pU)], 1, 12, [])
/-- 3: java/lang/Math.min -/
def kc_3 : ck_K := (yJ9_min_7cf53, cJ9_min_7cf53, 2, (some .int), 14, [cF, cF], pP, [(some (cF), [], pU)], 1, 12, [])
/-- 4: RecastStage$Casting.cheapestAt -/
def kc_4 : ck_K := (yX1_cheapestAt, cX1_cheapestAt, 4, (some .int), 1, [.inr (.inl 1), .inl (0, 5, [])], pP, [(some (cF), [], pU)], 2, 33, [(5, ([(3, .inl (0, 8, [])), (2, cF), (0, .inr (.inl 1)), (1, .inl (0, 5, [(2, 0, 0)]))], [], pU), (16, [(3, -2)]))])
/-- 5: RecastStage$Casting.freeMen -/
def kc_5 : ck_K := (yX1_freeMen, cX1_freeMen, 5, (some .int), 1, [.inr (.inl 1), .inl (0, 5, []), cF], pP, [(some (cF), [], pU)], 2, 33, [(14, ([(4, .inl (0, 5, [])), (3, cF), (0, .inr (.inl 1)), (1, .inl (0, 5, [(2, 0, 0)]))], [], pU), (10, [(4, -2)]))])
/-- 6: RecastStage$Casting.seekCheapest -/
def kc_6 : ck_K := (yX1_seekCheapest, cX1_seekCheapest, 6, none, 1, [.inr (.inl 1), .inl (6, 6, []), cF, cF], pP, [(none, [], pU)], 1, 26, [])
/-- 7: RecastStage$Casting.seekCheapest -/
def kc_7 : ck_K := (yX1_seekCheapest, cX1_seekCheapest, 6, none, 1, [.inr (.inl 1), .inl (5, 5, []), cF, cF], pP, [(none, [], pU)], 3, 57, [(58, ([(5, .inl (0, 8, [])), (4, cF), (0, .inr (.inl 1)), (1, .inl (5, 5, [(2, 0, 0)])), (2, .inl (-2147483648, 2147483647, [(4, 0, 0)])), (3, .inl (-2147483648, 2147483647, [(6, 0, 0)]))], [], (pU.set 7 (.inl (6, 6, [(2014, 0, 0)])))), (16, [(5, -2)]))])
/-- 8: RecastStage$Casting.seekCheapest -/
def kc_8 : ck_K := (yX1_seekCheapest, cX1_seekCheapest, 6, none, 1, [.inr (.inl 1), .inl (4, 4, []), cF, cF], pP, [(none, [], pU)], 4, 82, [(58, ([(5, .inl (0, 8, [])), (4, cF), (0, .inr (.inl 1)), (1, .inl (4, 4, [(2, 0, 0)])), (2, .inl (-2147483648, 2147483647, [(4, 0, 0)])), (3, .inl (-2147483648, 2147483647, [(6, 0, 0)]))], [], (pU.set 7 (.inl (5, 6, [(2014, 0, 0)])))), (16, [(5, -2)]))])
/-- 9: RecastStage$Casting.seekCheapest -/
def kc_9 : ck_K := (yX1_seekCheapest, cX1_seekCheapest, 6, none, 1, [.inr (.inl 1), .inl (3, 3, []), cF, cF], pP, [(none, [], pU)], 5, 107, [(58, ([(5, .inl (0, 8, [])), (4, cF), (0, .inr (.inl 1)), (1, .inl (3, 3, [(2, 0, 0)])), (2, .inl (-2147483648, 2147483647, [(4, 0, 0)])), (3, .inl (-2147483648, 2147483647, [(6, 0, 0)]))], [], (pU.set 7 (.inl (4, 6, [(2014, 0, 0)])))), (16, [(5, -2)]))])
/-- 10: RecastStage$Casting.seekCheapest -/
def kc_10 : ck_K := (yX1_seekCheapest, cX1_seekCheapest, 6, none, 1, [.inr (.inl 1), .inl (2, 2, []), cF, cF], pP, [(none, [], pU)], 6, 132, [(58, ([(5, .inl (0, 8, [])), (4, cF), (0, .inr (.inl 1)), (1, .inl (2, 2, [(2, 0, 0)])), (2, .inl (-2147483648, 2147483647, [(4, 0, 0)])), (3, .inl (-2147483648, 2147483647, [(6, 0, 0)]))], [], (pU.set 7 (.inl (3, 6, [(2014, 0, 0)])))), (16, [(5, -2)]))])
/-- 11: RecastStage$Casting.seekCheapest -/
def kc_11 : ck_K := (yX1_seekCheapest, cX1_seekCheapest, 6, none, 1, [.inr (.inl 1), .inl (1, 1, []), cF, cF], pP, [(none, [], pU)], 7, 157, [(58, ([(5, .inl (0, 8, [])), (4, cF), (0, .inr (.inl 1)), (1, .inl (1, 1, [(2, 0, 0)])), (2, .inl (-2147483648, 2147483647, [(4, 0, 0)])), (3, .inl (-2147483648, 2147483647, [(6, 0, 0)]))], [], (pU.set 7 (.inl (2, 6, [(2014, 0, 0)])))), (16, [(5, -2)]))])
/-- 12: RecastStage$Casting.seekCheapest -/
def kc_12 : ck_K := (yX1_seekCheapest, cX1_seekCheapest, 6, none, 1, [.inr (.inl 1), .inl (0, 0, []), cF, cF], pP, [(none, [], pU)], 8, 182, [(58, ([(5, .inl (0, 8, [])), (4, cF), (0, .inr (.inl 1)), (1, .inl (0, 0, [(2, 0, 0)])), (2, .inl (-2147483648, 2147483647, [(4, 0, 0)])), (3, .inl (-2147483648, 2147483647, [(6, 0, 0)]))], [], (pU.set 7 (.inl (1, 6, [(2014, 0, 0)])))), (16, [(5, -2)]))])
/-- 13: RecastStage$Casting.findCheapest -/
def kc_13 : ck_K := (yX1_findCheapest, cX1_findCheapest, 2, (some .boolean), 1, [.inr (.inl 1)], pP, [(some (.inl (0, 0, [])), [], pU), (some (.inl (1, 1, [])), [], pU)], 9, 207, [(17, ([(1, .inl (-1, 5, [(2014, -7, -1)])), (0, .inr (.inl 1))], [], pU), (2, [(1, 2)]))])
/-- 14: RecastStage$Evening.isOver -/
def kc_14 : ck_K := (yX2_isOver, cX2_isOver, 2, (some .boolean), 2, [.inr (.inl 2), .inr (.inl 6)], pP, [(some (.inl (0, 0, [])), [], pU), (some (.inl (1, 1, [])), [], pU)], 1, 12, [])
/-- 15: RecastStage$Evening.unknownTo -/
def kc_15 : ck_K := (yX2_unknownTo, cX2_unknownTo, 4, (some .int), 2, [.inr (.inl 2), .inr (.inl 6), .inl (0, 7, []), .inl (0, 5, [])], pP, [(some (cF), [], pU)], 1, 12, [])
/-- 16: RecastStage$Play.partsOf -/
def kc_16 : ck_K := (yX6_partsOf, cX6_partsOf, 4, (some .int), 6, [.inr (.inl 6), cF], pP, [(some (cF), [], pU)], 1, 12, [(4, ([(3, .inl (0, 12, [])), (2, cF), (0, .inr (.inl 6)), (1, .inl (-2147483648, 2147483647, [(2, 0, 0)]))], [], pU), (24, [(3, -2)]))])
/-- 17: RecastStage$Evening.whyUnfit -/
def kc_17 : ck_K := (yX2_whyUnfit, cX2_whyUnfit, 4, (some .int), 2, [.inr (.inl 2), .inr (.inl 6), .inl (0, 7, []), .inl (0, 5, [])], pP, [(some (.inl (0, 6, [])), [], pU)], 2, 35, [])
/-- 18: RecastStage$Casting.ableMen -/
def kc_18 : ck_K := (yX1_ableMen, cX1_ableMen, 8, (some .int), 1, [.inr (.inl 6), .inr (.inl 2), .inl (0, 5, []), .inl (0, 1, [])], pP, [(some (cF), [], pU)], 3, 58, [(6, ([(5, .inl (0, 8, [])), (4, cF), (0, .inr (.inl 6)), (1, .inr (.inl 2)), (2, .inl (0, 5, [(4, 0, 0)])), (3, .inl (0, 1, [(6, 0, 0)]))], [], pU), (16, [(5, -2)]))])
/-- 19: RecastStage$Play.partsBeside -/
def kc_19 : ck_K := (yX6_partsBeside, cX6_partsBeside, 5, (some .int), 6, [.inr (.inl 6), cF, cF], pP, [(some (cF), [], pU)], 2, 33, [(5, ([(4, .inl (0, 12, [])), (3, cF), (0, .inr (.inl 6)), (1, .inl (-2147483648, 2147483647, [(2, 0, 0)])), (2, .inl (-2147483648, 2147483647, [(4, 0, 0)]))], [], pU), (24, [(4, -2)]))])
/-- 20: RecastStage$Casting.prepare -/
def kc_20 : ck_K := (yX1_prepare, cX1_prepare, 6, (some .boolean), 1, [.inr (.inl 1), .inr (.inl 6), .inr (.inl 2), .inl (0, 1, [])], pP, [(some (.inl (0, 0, [])), [], (pU.set 7 (.inl (0, 0, [])))), (some (.inl (1, 1, [])), [], (pU.set 7 (.inl (0, 6, []))))], 4, 85, [(51, ([(5, .inl (0, 6, [])), (4, cF), (0, .inr (.inl 1)), (1, .inr (.inl 6)), (2, .inr (.inl 2)), (3, .inl (0, 1, [(6, 0, 0)]))], [], (pU.set 7 (.inl (0, 6, [(11, -6, 0)])))), (12, [(5, -2)]))])
/-- 21: RecastStage$Play.liking -/
def kc_21 : ck_K := (yX6_liking, cX6_liking, 3, (some .int), 6, [.inr (.inl 6), .inl (0, 7, []), .inl (0, 5, [])], pP, [(some (cF), [], pU)], 1, 12, [])
/-- 22: RecastStage$Play.liking -/
def kc_22 : ck_K := (yX6_liking, cX6_liking, 3, (some .int), 6, [.inr (.inl 13), .inl (0, 7, []), .inl (0, 5, [])], pP, [(some (cF), [], pU)], 1, 12, [])
/-- 23: RecastStage$Casting.findBest -/
def kc_23 : ck_K := (yX1_findBest, cX1_findBest, 5, (some .boolean), 1, [.inr (.inl 1), .inr (.inl 6), .inr (.inl 2)], pP, [(some (.inl (0, 0, [])), [], (pU.set 7 (.inl (0, 6, [])))), (some (.inl (1, 1, [])), [], (pU.set 7 (.inl (0, 6, []))))], 10, 228, [(14, ([(3, .inl (0, 6, [])), (0, .inr (.inl 1)), (1, .inr (.inl 6))], [], (pU.set 7 (.inl (0, 6, [])))), (145, [(3, -21)])), (25, ([(4, .inl (0, 8, [])), (3, .inl (0, 5, [])), (0, .inr (.inl 1)), (1, .inr (.inl 6))], [], (pU.set 7 (.inl (1, 6, [])))), (142, [(3, -21), (4, -2)]))])
/-- 24: RecastStage$Evening.canEndAct -/
def kc_24 : ck_K := (yX2_canEndAct, cX2_canEndAct, 4, (some .boolean), 2, [.inr (.inl 2), .inr (.inl 6)], pP, [(some (.inl (0, 0, [])), [], pU), (some (.inl (1, 1, [])), [], pU)], 2, 35, [(21, ([(3, .inl (0, 6, [])), (2, cF), (0, .inr (.inl 2)), (1, .inr (.inl 6))], [], pU), (12, [(3, -2)]))])
/-- 25: RecastStage$Evening.canTell -/
def kc_25 : ck_K := (yX2_canTell, cX2_canTell, 4, (some .boolean), 2, [.inr (.inl 2), .inr (.inl 6), .inl (0, 7, []), cF], pP, [(some (.inl (0, 0, [])), [], pU), (some (.inl (1, 1, [])), [], pU)], 2, 33, [])
/-- 26: RecastStage$Evening.meetsFoe -/
def kc_26 : ck_K := (yX2_meetsFoe, cX2_meetsFoe, 6, (some .boolean), 2, [.inr (.inl 2), .inr (.inl 6), .inl (0, 7, []), .inl (0, 5, [])], pP, [(some (.inl (0, 0, [])), [], pU), (some (.inl (1, 1, [])), [], pU)], 3, 57, [(14, ([(5, .inl (0, 6, [])), (4, cF), (0, .inr (.inl 2)), (1, .inr (.inl 6)), (2, .inl (0, 7, [(4, 0, 0)]))], [], pU), (12, [(5, -2)]))])
/-- 27: RecastStage$Evening.partOf -/
def kc_27 : ck_K := (yX2_partOf, cX2_partOf, 3, (some .int), 2, [.inr (.inl 2), cF], pP, [(some (.inl (-1, 5, [])), [], pU)], 1, 12, [(2, ([(2, .inl (0, 6, [])), (0, .inr (.inl 2)), (1, .inl (-2147483648, 2147483647, [(2, 0, 0)]))], [], pU), (12, [(2, -2)]))])
/-- 28: RecastStage$Evening.whyNot -/
def kc_28 : ck_K := (yX2_whyNot, cX2_whyNot, 5, (some .int), 2, [.inr (.inl 2), .inr (.inl 6), .inl (0, 7, []), .inl (0, 5, [])], pP, [(some (.inl (0, 10, [])), [], pU)], 4, 82, [])
/-- 29: RecastStage$Evening.clap (by hand) -/
def kc_29 : ck_K := (yX2_clap, cX2_clap, 6, none, 2, [.inr (.inl 2), .inr (.inl 6), .inl (0, 7, [])], pP, [(none, [], pU)], 2, 34, [])
/-- 30: RecastStage$Evening.learn -/
def kc_30 : ck_K := (yX2_learn, cX2_learn, 5, none, 2, [.inr (.inl 2), .inr (.inl 6), .inl (0, 7, [])], pP, [(none, [], pU)], 2, 34, [(9, ([(4, .inl (0, 12, [])), (3, .inl (-1, 5, [])), (0, .inr (.inl 2)), (1, .inr (.inl 6)), (2, .inl (0, 7, [(4, 0, 0)]))], [], pU), (24, [(4, -2)]))])
/-- 31: java/lang/Math.abs -/
def kc_31 : ck_K := (yJ9_abs_0f7a4, cJ9_abs_0f7a4, 1, (some .int), 14, [cF], pP, [(some (cF), [], pU)], 1, 12, [])
/-- 32: RecastStage$Evening.lossBy (by hand) -/
def kc_32 : ck_K := (yX2_lossBy, cX2_lossBy, 4, (some .int), 2, [.inr (.inl 2), .inr (.inl 6), .inl (0, 7, []), .inl (0, 5, [])], pP, [(some (cF), [], pU)], 2, 32, [])
/-- 33: RecastStage$Evening.menOn -/
def kc_33 : ck_K := (yX2_menOn, cX2_menOn, 3, (some .int), 2, [.inr (.inl 2)], pP, [(some (cF), [], pU)], 1, 12, [(4, ([(2, .inl (0, 6, [])), (1, cF), (0, .inr (.inl 2))], [], pU), (12, [(2, -2)]))])
/-- 34: RecastStage$Evening.tell -/
def kc_34 : ck_K := (yX2_tell, cX2_tell, 3, none, 2, [.inr (.inl 2), .inl (0, 7, []), cF], pP, [(none, [], pU)], 1, 12, [])
/-- 35: RecastStage$Reader.fail -/
def kc_35 : ck_K := (yX8_fail, cX8_fail, 2, none, 8, [.inr (.inl 8), .inl (1, 4, [])], pP, [(none, [], (pU.set 25 (.inl (1, 4, []))))], 1, 12, [])
/-- 36: RecastStage$Reader.isFine -/
def kc_36 : ck_K := (yX8_isFine, cX8_isFine, 1, (some .boolean), 8, [.inr (.inl 8)], pP, [(some (.inl (0, 0, [])), [], (pU.set 25 (.inl (1, 4, [(2050, 0, 0)])))), (some (.inl (1, 1, [])), [], (pU.set 25 (.inl (0, 0, [(2050, 0, 0)]))))], 1, 12, [])
/-- 37: RecastStage$Reader.indexOf -/
def kc_37 : ck_K := (yX8_indexOf, cX8_indexOf, 5, (some .int), 8, [.inr (.inl 53), cF, .inr (.inr ())], pP, [(some (.inl (-1, 5, [])), [], pU)], 1, 12, [(3, ([(4, .inl (0, 6, [])), (0, .inr (.inl 53)), (1, .inl (-2147483648, 2147483647, [(2, 0, 0)])), (2, .inr (.inr ()))], [], pU), (12, [(4, -2)]))])
/-- 38: RecastStage$Reader.indexOf -/
def kc_38 : ck_K := (yX8_indexOf, cX8_indexOf, 5, (some .int), 8, [.inr (.inl 54), cF, .inr (.inr ())], pP, [(some (.inl (-1, 5, [])), [], pU)], 1, 12, [(3, ([(4, .inl (0, 6, [])), (0, .inr (.inl 54)), (1, .inl (-2147483648, 2147483647, [(2, 0, 0)])), (2, .inr (.inr ()))], [], pU), (12, [(4, -2)]))])
/-- 39: RecastStage$Reader.indexOf -/
def kc_39 : ck_K := (yX8_indexOf, cX8_indexOf, 5, (some .int), 8, [.inr (.inl 55), cF, .inr (.inr ())], pP, [(some (.inl (-1, 7, [])), [], pU)], 1, 12, [(3, ([(4, .inl (0, 8, [])), (0, .inr (.inl 55)), (1, .inl (-2147483648, 2147483647, [(2, 0, 0)])), (2, .inr (.inr ()))], [], pU), (16, [(4, -2)]))])
/-- 40: RecastStage$Reader.indexOf -/
def kc_40 : ck_K := (yX8_indexOf, cX8_indexOf, 5, (some .int), 8, [.inr (.inl 16), cF, .inr (.inr ())], pP, [(some (.inl (-1, 26, [])), [], pU)], 1, 12, [(3, ([(4, .inl (0, 27, [])), (0, .inr (.inl 16)), (1, .inl (-2147483648, 2147483647, [(2, 0, 0)])), (2, .inr (.inr ()))], [], pU), (54, [(4, -2)]))])
/-- 41: RecastStage$Reader.indexOf -/
def kc_41 : ck_K := (yX8_indexOf, cX8_indexOf, 5, (some .int), 8, [.inr (.inl 67), cF, .inr (.inr ())], pP, [(some (.inl (-1, 5, [])), [], pU)], 1, 12, [(3, ([(4, .inl (0, 6, [])), (0, .inr (.inl 67)), (1, .inl (-2147483648, 2147483647, [(2, 0, 0)])), (2, .inr (.inr ()))], [], pU), (12, [(4, -2)]))])
/-- 42: RecastStage$Reader.indexOf -/
def kc_42 : ck_K := (yX8_indexOf, cX8_indexOf, 5, (some .int), 8, [.inr (.inl 68), cF, .inr (.inr ())], pP, [(some (.inl (-1, 5, [])), [], pU)], 1, 12, [(3, ([(4, .inl (0, 6, [])), (0, .inr (.inl 68)), (1, .inl (-2147483648, 2147483647, [(2, 0, 0)])), (2, .inr (.inr ()))], [], pU), (12, [(4, -2)]))])
/-- 43: RecastStage$Reader.indexOf -/
def kc_43 : ck_K := (yX8_indexOf, cX8_indexOf, 5, (some .int), 8, [.inr (.inl 69), cF, .inr (.inr ())], pP, [(some (.inl (-1, 7, [])), [], pU)], 1, 12, [(3, ([(4, .inl (0, 8, [])), (0, .inr (.inl 69)), (1, .inl (-2147483648, 2147483647, [(2, 0, 0)])), (2, .inr (.inr ()))], [], pU), (16, [(4, -2)]))])
/-- 44: RecastStage$Reader.nameHere -/
def kc_44 : ck_K := (yX8_nameHere, cX8_nameHere, 4, (some .int), 8, [.inr (.inl 8), .inr (.inl 53), cF], pP, [(some (.inl (-1, -1, [])), [], (pU.set 25 (.inl (1, 4, [])))), (some (.inl (0, 5, [])), [], pU)], 2, 36, [])
/-- 45: RecastStage$Reader.nameHere -/
def kc_45 : ck_K := (yX8_nameHere, cX8_nameHere, 4, (some .int), 8, [.inr (.inl 8), .inr (.inl 54), cF], pP, [(some (.inl (-1, -1, [])), [], (pU.set 25 (.inl (1, 4, [])))), (some (.inl (0, 5, [])), [], pU)], 2, 36, [])
/-- 46: RecastStage$Reader.nameHere -/
def kc_46 : ck_K := (yX8_nameHere, cX8_nameHere, 4, (some .int), 8, [.inr (.inl 8), .inr (.inl 55), cF], pP, [(some (.inl (-1, -1, [])), [], (pU.set 25 (.inl (1, 4, [])))), (some (.inl (0, 7, [])), [], pU)], 2, 36, [])
/-- 47: RecastStage$Reader.nameHere -/
def kc_47 : ck_K := (yX8_nameHere, cX8_nameHere, 4, (some .int), 8, [.inr (.inl 8), .inr (.inl 67), cF], pP, [(some (.inl (-1, -1, [])), [], (pU.set 25 (.inl (1, 4, [])))), (some (.inl (0, 5, [])), [], pU)], 2, 36, [])
/-- 48: RecastStage$Reader.nameHere -/
def kc_48 : ck_K := (yX8_nameHere, cX8_nameHere, 4, (some .int), 8, [.inr (.inl 8), .inr (.inl 68), cF], pP, [(some (.inl (-1, -1, [])), [], (pU.set 25 (.inl (1, 4, [])))), (some (.inl (0, 5, [])), [], pU)], 2, 36, [])
/-- 49: RecastStage$Reader.nameHere -/
def kc_49 : ck_K := (yX8_nameHere, cX8_nameHere, 4, (some .int), 8, [.inr (.inl 8), .inr (.inl 69), cF], pP, [(some (.inl (-1, -1, [])), [], (pU.set 25 (.inl (1, 4, [])))), (some (.inl (0, 7, [])), [], pU)], 2, 36, [])
/-- 50: RecastStage$Reader.isBlank -/
def kc_50 : ck_K := (yX8_isBlank, cX8_isBlank, 1, (some .boolean), 8, [cF], pP, [(some (.inl (0, 0, [])), [], pU), (some (.inl (1, 1, [])), [(0, 10, 32)], pU)], 1, 12, [])
/-- 51: RecastStage$Reader.isDigit -/
def kc_51 : ck_K := (yX8_isDigit, cX8_isDigit, 1, (some .boolean), 8, [cF], pP, [(some (.inl (0, 0, [])), [], pU), (some (.inl (1, 1, [])), [(0, 48, 57)], pU)], 1, 12, [])
/-- 52: RecastStage$Reader.isLetter -/
def kc_52 : ck_K := (yX8_isLetter, cX8_isLetter, 1, (some .boolean), 8, [cF], pP, [(some (.inl (0, 0, [])), [], pU), (some (.inl (1, 1, [])), [(0, 97, 122)], pU)], 1, 12, [])
/-- 53: RecastStage$Reader.isSign -/
def kc_53 : ck_K := (yX8_isSign, cX8_isSign, 1, (some .boolean), 8, [cF], pP, [(some (.inl (0, 0, [])), [], pU), (some (.inl (1, 1, [])), [(0, 40, 62)], pU)], 1, 12, [])
/-- 54: RecastStage$Reader.withLetter -/
def kc_54 : ck_K := (yX8_withLetter, cX8_withLetter, 3, (some .long), 8, [.inr (.inr ()), cF], pP, [(some (.inr (.inr ())), [], pU)], 1, 12, [])
/-- 55: RecastStage$Tape.byteAt -/
def kc_55 : ck_K := (yX10_byteAt, cX10_byteAt, 2, (some .int), 10, [.inr (.inl 10), cF], pP, [(some (.inl (0, 255, [])), [], pU)], 1, 12, [])
/-- 56: RecastStage$Reader.readRun -/
def kc_56 : ck_K := (yX8_readRun, cX8_readRun, 4, none, 8, [.inr (.inl 8)], pP, [(none, [], (pU.set 1 (.inl (0, 940, [(2002, 0, 940)]))))], 2, 36, [(14, ([(2, cF), (1, cF), (0, .inr (.inl 8))], [], (pU.set 1 (.inl (0, 940, [(2002, 0, 940)])))), (1880, [(1001, -2)]))])
/-- 57: RecastStage$Reader.step -/
def kc_57 : ck_K := (yX8_step, cX8_step, 2, none, 8, [.inr (.inl 8)], pP, [(none, [], (pU.set 1 (.inl (0, 940, [(2002, 0, 940)]))))], 3, 59, [(0, ([(0, .inr (.inl 8))], [], ((pU.set 0 (.inl (1, 940, [(2000, 0, 0)]))).set 1 (.inl (1, 940, [(2002, 1, 940)])))), (1880, [(1001, -2)]))])
/-- 58: RecastStage$Reader.takeName -/
def kc_58 : ck_K := (yX8_takeName, cX8_takeName, 4, (some .int), 8, [.inr (.inl 8), .inr (.inl 53), cF], pP, [(some (.inl (-1, -1, [])), [], (pU.set 25 (.inl (1, 4, [])))), (some (.inl (0, 5, [])), [], (pU.set 1 (.inl (0, 940, [(2002, 0, 940)]))))], 4, 80, [])
/-- 59: RecastStage$Reader.takeName -/
def kc_59 : ck_K := (yX8_takeName, cX8_takeName, 4, (some .int), 8, [.inr (.inl 8), .inr (.inl 54), cF], pP, [(some (.inl (-1, -1, [])), [], (pU.set 25 (.inl (1, 4, [])))), (some (.inl (0, 5, [])), [], (pU.set 1 (.inl (0, 940, [(2002, 0, 940)]))))], 4, 80, [])
/-- 60: RecastStage$Reader.takeName -/
def kc_60 : ck_K := (yX8_takeName, cX8_takeName, 4, (some .int), 8, [.inr (.inl 8), .inr (.inl 55), cF], pP, [(some (.inl (-1, -1, [])), [], (pU.set 25 (.inl (1, 4, [])))), (some (.inl (0, 7, [])), [], (pU.set 1 (.inl (0, 940, [(2002, 0, 940)]))))], 4, 80, [])
/-- 61: RecastStage$Reader.takeName -/
def kc_61 : ck_K := (yX8_takeName, cX8_takeName, 4, (some .int), 8, [.inr (.inl 8), .inr (.inl 67), cF], pP, [(some (.inl (-1, -1, [])), [], (pU.set 25 (.inl (1, 4, [])))), (some (.inl (0, 5, [])), [], (pU.set 1 (.inl (0, 940, [(2002, 0, 940)]))))], 4, 80, [])
/-- 62: RecastStage$Reader.takeName -/
def kc_62 : ck_K := (yX8_takeName, cX8_takeName, 4, (some .int), 8, [.inr (.inl 8), .inr (.inl 68), cF], pP, [(some (.inl (-1, -1, [])), [], (pU.set 25 (.inl (1, 4, [])))), (some (.inl (0, 5, [])), [], (pU.set 1 (.inl (0, 940, [(2002, 0, 940)]))))], 4, 80, [])
/-- 63: RecastStage$Reader.takeName -/
def kc_63 : ck_K := (yX8_takeName, cX8_takeName, 4, (some .int), 8, [.inr (.inl 8), .inr (.inl 69), cF], pP, [(some (.inl (-1, -1, [])), [], (pU.set 25 (.inl (1, 4, [])))), (some (.inl (0, 7, [])), [], (pU.set 1 (.inl (0, 940, [(2002, 0, 940)]))))], 4, 80, [])
/-- 64: RecastStage$Reader.isAtWord -/
def kc_64 : ck_K := (yX8_isAtWord, cX8_isAtWord, 2, (some .boolean), 8, [.inr (.inl 8), cF], pP, [(some (.inl (0, 0, [])), [], pU), (some (.inl (1, 1, [])), [(1, -1, 26)], pU)], 1, 12, [])
/-- 65: RecastStage$Reader.takeWord -/
def kc_65 : ck_K := (yX8_takeWord, cX8_takeWord, 2, none, 8, [.inr (.inl 8), cF], pP, [(none, [], ((pU.set 1 (.inl (0, 940, [(2002, 0, 940)]))).set 25 (.inl (0, 4, []))))], 4, 80, [])
/-- 66: RecastStage$Reader.wordHere -/
def kc_66 : ck_K := (yX8_wordHere, cX8_wordHere, 1, (some .int), 8, [.inr (.inl 8)], pP, [(some (.inl (-1, 26, [])), [], pU)], 1, 12, [])
/-- 67: RecastStage$Reader.isAtSign -/
def kc_67 : ck_K := (yX8_isAtSign, cX8_isAtSign, 2, (some .boolean), 8, [.inr (.inl 8), cF], pP, [(some (.inl (0, 0, [])), [], pU), (some (.inl (1, 1, [])), [], pU)], 1, 12, [])
/-- 68: RecastStage$Reader.takeSign -/
def kc_68 : ck_K := (yX8_takeSign, cX8_takeSign, 2, none, 8, [.inr (.inl 8), cF], pP, [(none, [], ((pU.set 1 (.inl (0, 940, [(2002, 0, 940)]))).set 25 (.inl (0, 4, []))))], 4, 80, [])
/-- 69: RecastStage$Casting.ableForAny -/
def kc_69 : ck_K := (yX1_ableForAny, cX1_ableForAny, 4, (some .int), 1, [.inr (.inl 1), cF], pP, [(some (cF), [], pU)], 2, 33, [(4, ([(3, .inl (0, 6, [])), (2, cF), (0, .inr (.inl 1)), (1, .inl (-2147483648, 2147483647, [(2, 0, 0)]))], [], pU), (12, [(3, -2)]))])
/-- 70: java/lang/Integer.bitCount -/
def kc_70 : ck_K := (yJ6_bitCount_0f7a4, cJ6_bitCount_0f7a4, 1, (some .int), 13, [cF], pP, [(some (.inl (0, 63, [])), [], pU)], 1, 12, [])
/-- 71: RecastStage$Casting.addLast -/
def kc_71 : ck_K := (yX1_addLast, cX1_addLast, 4, none, 1, [.inr (.inl 1), cF, cF], pP, [(none, [], pU)], 2, 32, [])
/-- 72: RecastStage$Casting.seekAll -/
def kc_72 : ck_K := (yX1_seekAll, cX1_seekAll, 5, none, 1, [.inr (.inl 1), .inl (6, 6, []), cF], pP, [(none, [], pU)], 1, 12, [])
/-- 73: RecastStage$Casting.seekAll -/
def kc_73 : ck_K := (yX1_seekAll, cX1_seekAll, 5, none, 1, [.inr (.inl 1), .inl (5, 5, []), cF], pP, [(none, [], pU)], 3, 57, [])
/-- 74: RecastStage$Casting.seekAll -/
def kc_74 : ck_K := (yX1_seekAll, cX1_seekAll, 5, none, 1, [.inr (.inl 1), .inl (4, 4, []), cF], pP, [(none, [], pU)], 4, 81, [(56, ([(4, .inl (0, 8, [])), (3, cF), (0, .inr (.inl 1)), (1, .inl (4, 4, [(2, 0, 0)])), (2, .inl (-2147483648, 2147483647, [(4, 0, 0)]))], [], (pU.set 7 (.inl (6, 6, [(2014, 0, 0)])))), (16, [(4, -2)]))])
/-- 75: RecastStage$Casting.seekAll -/
def kc_75 : ck_K := (yX1_seekAll, cX1_seekAll, 5, none, 1, [.inr (.inl 1), .inl (3, 3, []), cF], pP, [(none, [], pU)], 5, 105, [(56, ([(4, .inl (0, 8, [])), (3, cF), (0, .inr (.inl 1)), (1, .inl (3, 3, [(2, 0, 0)])), (2, .inl (-2147483648, 2147483647, [(4, 0, 0)]))], [], (pU.set 7 (.inl (5, 6, [(2014, 0, 0)])))), (16, [(4, -2)]))])
/-- 76: RecastStage$Casting.seekAll -/
def kc_76 : ck_K := (yX1_seekAll, cX1_seekAll, 5, none, 1, [.inr (.inl 1), .inl (2, 2, []), cF], pP, [(none, [], pU)], 6, 129, [(56, ([(4, .inl (0, 8, [])), (3, cF), (0, .inr (.inl 1)), (1, .inl (2, 2, [(2, 0, 0)])), (2, .inl (-2147483648, 2147483647, [(4, 0, 0)]))], [], (pU.set 7 (.inl (4, 6, [(2014, 0, 0)])))), (16, [(4, -2)]))])
/-- 77: RecastStage$Casting.seekAll -/
def kc_77 : ck_K := (yX1_seekAll, cX1_seekAll, 5, none, 1, [.inr (.inl 1), .inl (1, 1, []), cF], pP, [(none, [], pU)], 7, 153, [(56, ([(4, .inl (0, 8, [])), (3, cF), (0, .inr (.inl 1)), (1, .inl (1, 1, [(2, 0, 0)])), (2, .inl (-2147483648, 2147483647, [(4, 0, 0)]))], [], (pU.set 7 (.inl (3, 6, [(2014, 0, 0)])))), (16, [(4, -2)]))])
/-- 78: RecastStage$Casting.seekAll -/
def kc_78 : ck_K := (yX1_seekAll, cX1_seekAll, 5, none, 1, [.inr (.inl 1), .inl (0, 0, []), cF], pP, [(none, [], pU)], 8, 177, [(56, ([(4, .inl (0, 8, [])), (3, cF), (0, .inr (.inl 1)), (1, .inl (0, 0, [(2, 0, 0)])), (2, .inl (-2147483648, 2147483647, [(4, 0, 0)]))], [], (pU.set 7 (.inl (2, 6, [(2014, 0, 0)])))), (16, [(4, -2)]))])
/-- 79: RecastStage$Play.allMen -/
def kc_79 : ck_K := (yX6_allMen, cX6_allMen, 1, (some .int), 6, [.inr (.inl 6)], pP, [(some (.inl (0, 255, [])), [], pU)], 1, 12, [])
/-- 80: RecastStage$Casting.countBy -/
def kc_80 : ck_K := (yX1_countBy, cX1_countBy, 5, (some .int), 1, [.inr (.inl 1), .inr (.inl 6), .inr (.inl 2), cF], pP, [(some (cF), [], (pU.set 7 (.inl (0, 6, []))))], 9, 201, [(26, ([(4, .inl (0, 6, [])), (0, .inr (.inl 1)), (3, .inl (-2147483648, 2147483647, [(6, 0, 0)]))], [], (pU.set 7 (.inl (0, 6, [])))), (12, [(4, -2)]))])
/-- 81: RecastStage$Casting.fewestWhispers -/
def kc_81 : ck_K := (yX1_fewestWhispers, cX1_fewestWhispers, 5, (some .int), 1, [.inr (.inl 1), .inr (.inl 6), .inr (.inl 2)], pP, [(some (cF), [], (pU.set 7 (.inl (0, 6, []))))], 10, 228, [(14, ([(3, .inl (0, 6, [])), (0, .inr (.inl 1)), (1, .inr (.inl 6)), (2, .inr (.inl 2))], [], (pU.set 7 (.inl (0, 6, [])))), (145, [(3, -21)])), (25, ([(4, .inl (0, 8, [])), (3, .inl (0, 5, [])), (0, .inr (.inl 1)), (1, .inr (.inl 6)), (2, .inr (.inl 2))], [], (pU.set 7 (.inl (1, 6, [])))), (142, [(3, -21), (4, -2)]))])
/-- 82: RecastStage$Casting.joyOfBest -/
def kc_82 : ck_K := (yX1_joyOfBest, cX1_joyOfBest, 1, (some .int), 1, [.inr (.inl 1)], pP, [(some (cF), [], pU)], 1, 12, [])
/-- 83: RecastStage$Casting.leastLoss -/
def kc_83 : ck_K := (yX1_leastLoss, cX1_leastLoss, 5, (some .int), 1, [.inr (.inl 1), .inr (.inl 6), .inr (.inl 2)], pP, [(some (cF), [], (pU.set 7 (.inl (0, 6, []))))], 10, 228, [(14, ([(3, .inl (0, 6, [])), (0, .inr (.inl 1)), (1, .inr (.inl 6)), (2, .inr (.inl 2))], [], (pU.set 7 (.inl (0, 6, [])))), (145, [(3, -21)])), (25, ([(4, .inl (0, 8, [])), (3, .inl (0, 5, [])), (0, .inr (.inl 1)), (1, .inr (.inl 6)), (2, .inr (.inl 2))], [], (pU.set 7 (.inl (1, 6, [])))), (142, [(3, -21), (4, -2)]))])
/-- 84: RecastStage$Casting.partsAt -/
def kc_84 : ck_K := (yX1_partsAt, cX1_partsAt, 4, (some .int), 1, [.inr (.inl 1), cF], pP, [(some (cF), [], pU)], 2, 33, [(4, ([(3, .inl (0, 6, [])), (2, cF), (0, .inr (.inl 1)), (1, .inl (-2147483648, 2147483647, [(2, 0, 0)]))], [], pU), (12, [(3, -2)]))])
/-- 85: RecastStage$Casting.shortSet -/
def kc_85 : ck_K := (yX1_shortSet, cX1_shortSet, 6, (some .int), 1, [.inr (.inl 1), .inr (.inl 6), .inr (.inl 2)], pP, [(some (cF), [], (pU.set 7 (.inl (0, 6, []))))], 5, 110, [(17, ([(4, .inl (1, 64, [])), (3, .inl (0, 63, [])), (0, .inr (.inl 1))], [], (pU.set 7 (.inl (0, 6, [])))), (128, [(4, -2)]))])
/-- 86: RecastStage$Play.suspectsWith -/
def kc_86 : ck_K := (yX6_suspectsWith, cX6_suspectsWith, 4, (some .int), 6, [.inr (.inl 6), cF], pP, [(some (.inl (0, 63, [])), [], pU)], 2, 33, [(11, ([(3, .inl (0, 6, [])), (2, .inl (0, 63, [])), (0, .inr (.inl 6)), (1, .inl (-2147483648, 2147483647, [(2, 0, 0)]))], [], pU), (12, [(3, -2)]))])
/-- 87: RecastStage$Play.isSureWith -/
def kc_87 : ck_K := (yX6_isSureWith, cX6_isSureWith, 2, (some .boolean), 6, [.inr (.inl 6), cF], pP, [(some (.inl (0, 0, [])), [], pU), (some (.inl (1, 1, [])), [], pU)], 3, 56, [])
/-- 88: RecastStage$Evening.sureMen -/
def kc_88 : ck_K := (yX2_sureMen, cX2_sureMen, 4, (some .int), 2, [.inr (.inl 2), .inr (.inl 6)], pP, [(some (cF), [], pU)], 4, 77, [(4, ([(3, .inl (0, 8, [])), (2, cF), (0, .inr (.inl 2)), (1, .inr (.inl 6))], [], pU), (16, [(3, -2)]))])
/-- 89: RecastStage$History.forget -/
def kc_89 : ck_K := (yX3_forget, cX3_forget, 1, none, 3, [.inr (.inl 3)], pP, [(none, [], (pU.set 8 (.inl (0, 0, []))))], 1, 12, [])
/-- 90: RecastStage$Market.raise -/
def kc_90 : ck_K := (yX5_raise, cX5_raise, 6, (some .boolean), 5, [.inr (.inl 5), .inr (.inl 6)], pP, [(some (.inl (0, 1, [])), [], pU)], 1, 12, [(4, ([(3, .inl (0, 6, [])), (2, .inl (0, 1, [])), (0, .inr (.inl 5)), (1, .inr (.inl 6))], [], pU), (145, [(3, -21)])), (18, ([(5, .inl (0, 8, [])), (4, cF), (3, .inl (0, 5, [])), (2, .inl (0, 1, [])), (0, .inr (.inl 5)), (1, .inr (.inl 6))], [], pU), (142, [(3, -21), (5, -2)]))])
/-- 91: RecastStage$Market.wishOf -/
def kc_91 : ck_K := (yX5_wishOf, cX5_wishOf, 9, (some .int), 5, [.inr (.inl 5), .inl (0, 7, []), .inr (.inl 6), .inr (.inl 1)], pP, [(some (.inl (-1, 5, [])), [], pU)], 2, 34, [(9, ([(6, .inl (0, 6, [])), (5, .inl (-1, 2147483647, [])), (4, .inl (-1, 5, [])), (0, .inr (.inl 5)), (1, .inl (0, 7, [(2, 0, 0)])), (2, .inr (.inl 6)), (3, .inr (.inl 1))], [], pU), (12, [(6, -2)]))])
/-- 92: RecastStage$Play.actsWith -/
def kc_92 : ck_K := (yX6_actsWith, cX6_actsWith, 4, (some .int), 6, [.inr (.inl 6), cF], pP, [(some (cF), [], pU)], 2, 33, [(4, ([(3, .inl (0, 12, [])), (2, cF), (0, .inr (.inl 6)), (1, .inl (-2147483648, 2147483647, [(2, 0, 0)]))], [], pU), (24, [(3, -2)]))])
/-- 93: RecastStage$Play.factsOf -/
def kc_93 : ck_K := (yX6_factsOf, cX6_factsOf, 4, (some .int), 6, [.inr (.inl 6), cF], pP, [(some (cF), [], pU)], 1, 12, [(4, ([(3, .inl (0, 12, [])), (2, cF), (0, .inr (.inl 6)), (1, .inl (-2147483648, 2147483647, [(2, 0, 0)]))], [], pU), (24, [(3, -2)]))])
/-- 94: RecastStage$Play.hasFact -/
def kc_94 : ck_K := (yX6_hasFact, cX6_hasFact, 2, (some .boolean), 6, [.inr (.inl 6), cF], pP, [(some (.inl (0, 0, [])), [], pU), (some (.inl (1, 1, [])), [(1, 0, 5)], pU)], 1, 12, [])
/-- 95: RecastStage$Play.hasMan -/
def kc_95 : ck_K := (yX6_hasMan, cX6_hasMan, 2, (some .boolean), 6, [.inr (.inl 6), cF], pP, [(some (.inl (0, 0, [])), [], pU), (some (.inl (1, 1, [])), [(1, 0, 7)], pU)], 1, 12, [])
/-- 96: RecastStage$Play.hasName -/
def kc_96 : ck_K := (yX6_hasName, cX6_hasName, 3, (some .boolean), 6, [.inr (.inl 13), .inr (.inr ())], pP, [(some (.inl (0, 0, [])), [], pU), (some (.inl (1, 1, [])), [], pU)], 2, 36, [])
/-- 97: RecastStage$Play.hasPart -/
def kc_97 : ck_K := (yX6_hasPart, cX6_hasPart, 2, (some .boolean), 6, [.inr (.inl 6), cF], pP, [(some (.inl (0, 0, [])), [], pU), (some (.inl (1, 1, [])), [(1, 0, 5)], pU)], 1, 12, [])
/-- 98: RecastStage$Play.scenesOf -/
def kc_98 : ck_K := (yX6_scenesOf, cX6_scenesOf, 4, (some .int), 6, [.inr (.inl 6), cF], pP, [(some (cF), [], pU)], 1, 12, [(4, ([(3, .inl (0, 12, [])), (2, cF), (0, .inr (.inl 6)), (1, .inl (-2147483648, 2147483647, [(2, 0, 0)]))], [], pU), (24, [(3, -2)]))])
/-- 99: RecastStage$PlayReader.takeOneOf -/
def kc_99 : ck_K := (yX7_takeOneOf, cX7_takeOneOf, 3, (some .boolean), 7, [.inr (.inl 8), cF, .inl (6, 6, [])], pP, [(some (.inl (0, 0, [])), [(1, 6, 2147483647)], (pU.set 25 (.inl (1, 4, [])))), (some (.inl (1, 1, [])), [(1, -2147483648, 5)], (pU.set 1 (.inl (0, 940, [(2002, 0, 940)]))))], 4, 80, [])
/-- 100: RecastStage$PlayReader.takeOneOf -/
def kc_100 : ck_K := (yX7_takeOneOf, cX7_takeOneOf, 3, (some .boolean), 7, [.inr (.inl 8), cF, .inl (8, 8, [])], pP, [(some (.inl (0, 0, [])), [(1, 8, 2147483647)], (pU.set 25 (.inl (1, 4, [])))), (some (.inl (1, 1, [])), [(1, -2147483648, 7)], (pU.set 1 (.inl (0, 940, [(2002, 0, 940)]))))], 4, 80, [])
/-- 101: RecastStage$PlayReader.takeOneOf -/
def kc_101 : ck_K := (yX7_takeOneOf, cX7_takeOneOf, 3, (some .boolean), 7, [.inr (.inl 8), cF, .inl (12, 12, [])], pP, [(some (.inl (0, 0, [])), [(1, 12, 2147483647)], (pU.set 25 (.inl (1, 4, [])))), (some (.inl (1, 1, [])), [(1, -2147483648, 11)], (pU.set 1 (.inl (0, 940, [(2002, 0, 940)]))))], 4, 80, [])
/-- 102: RecastStage$PlayReader.readAct -/
def kc_102 : ck_K := (yX7_readAct, cX7_readAct, 2, none, 7, [.inr (.inl 7), .inr (.inl 8)], pP, [(none, [], (((pU.set 1 (.inl (0, 940, [(2002, 0, 940)]))).set 5 (.inl (1, 6, [(2010, 0, 1)]))).set 25 (.inl (0, 4, []))))], 5, 102, [])
/-- 103: RecastStage$PlayReader.takeOnce -/
def kc_103 : ck_K := (yX7_takeOnce, cX7_takeOnce, 3, (some .int), 7, [.inr (.inl 8), cF, cF], pP, [(some (cF), [], ((pU.set 1 (.inl (0, 940, [(2002, 0, 940)]))).set 25 (.inl (0, 4, []))))], 4, 80, [])
/-- 104: RecastStage$PlayReader.readClears -/
def kc_104 : ck_K := (yX7_readClears, cX7_readClears, 4, none, 7, [.inr (.inl 7), .inr (.inl 8)], pP, [(none, [], ((pU.set 1 (.inl (0, 940, [(2002, 0, 940)]))).set 25 (.inl (0, 4, []))))], 5, 103, [])
/-- 105: RecastStage$PlayReader.takeNewName -/
def kc_105 : ck_K := (yX7_takeNewName, cX7_takeNewName, 4, (some .boolean), 7, [.inr (.inl 7), .inr (.inl 8), .inr (.inl 53), .inl (0, 8, [])], pP, [(some (.inl (0, 0, [])), [], (pU.set 25 (.inl (1, 4, [])))), (some (.inl (1, 1, [])), [], (pU.set 1 (.inl (0, 940, [(2002, 0, 940)]))))], 4, 80, [])
/-- 106: RecastStage$PlayReader.takeNewName -/
def kc_106 : ck_K := (yX7_takeNewName, cX7_takeNewName, 4, (some .boolean), 7, [.inr (.inl 7), .inr (.inl 8), .inr (.inl 54), .inl (0, 8, [])], pP, [(some (.inl (0, 0, [])), [], (pU.set 25 (.inl (1, 4, [])))), (some (.inl (1, 1, [])), [], (pU.set 1 (.inl (0, 940, [(2002, 0, 940)]))))], 4, 80, [])
/-- 107: RecastStage$PlayReader.takeNewName -/
def kc_107 : ck_K := (yX7_takeNewName, cX7_takeNewName, 4, (some .boolean), 7, [.inr (.inl 7), .inr (.inl 8), .inr (.inl 55), .inl (0, 8, [])], pP, [(some (.inl (0, 0, [])), [], (pU.set 25 (.inl (1, 4, [])))), (some (.inl (1, 1, [])), [], (pU.set 1 (.inl (0, 940, [(2002, 0, 940)]))))], 4, 80, [])
/-- 108: RecastStage$PlayReader.readFact -/
def kc_108 : ck_K := (yX7_readFact, cX7_readFact, 2, none, 7, [.inr (.inl 7), .inr (.inl 8)], pP, [(none, [], (((pU.set 1 (.inl (0, 940, [(2002, 0, 940)]))).set 3 (.inl (0, 6, [(2006, 0, 1)]))).set 25 (.inl (0, 4, []))))], 5, 103, [])
/-- 109: RecastStage$PlayReader.readFoes -/
def kc_109 : ck_K := (yX7_readFoes, cX7_readFoes, 4, none, 7, [.inr (.inl 7), .inr (.inl 8)], pP, [(none, [], ((pU.set 1 (.inl (0, 940, [(2002, 0, 940)]))).set 25 (.inl (0, 4, []))))], 5, 103, [])
/-- 110: RecastStage$Reader.takeNumber -/
def kc_110 : ck_K := (yX8_takeNumber, cX8_takeNumber, 4, (some .int), 8, [.inr (.inl 8), cF, cF], pP, [(some (cF), [], ((pU.set 1 (.inl (0, 940, [(2002, 0, 940)]))).set 25 (.inl (0, 4, []))))], 4, 80, [])
/-- 111: RecastStage$PlayReader.readLikes -/
def kc_111 : ck_K := (yX7_readLikes, cX7_readLikes, 4, none, 7, [.inr (.inl 7), .inr (.inl 8)], pP, [(none, [], ((pU.set 1 (.inl (0, 940, [(2002, 0, 940)]))).set 25 (.inl (0, 4, []))))], 5, 103, [])
/-- 112: RecastStage$PlayReader.readMan -/
def kc_112 : ck_K := (yX7_readMan, cX7_readMan, 2, none, 7, [.inr (.inl 7), .inr (.inl 8)], pP, [(none, [], (((pU.set 1 (.inl (0, 940, [(2002, 0, 940)]))).set 4 (.inl (0, 8, [(2008, 0, 1)]))).set 25 (.inl (0, 4, []))))], 5, 103, [])
/-- 113: RecastStage$PlayReader.readNeeds -/
def kc_113 : ck_K := (yX7_readNeeds, cX7_readNeeds, 4, none, 7, [.inr (.inl 7), .inr (.inl 8)], pP, [(none, [], ((pU.set 1 (.inl (0, 940, [(2002, 0, 940)]))).set 25 (.inl (0, 4, []))))], 5, 103, [])
/-- 114: RecastStage$PlayReader.readNever -/
def kc_114 : ck_K := (yX7_readNever, cX7_readNever, 4, none, 7, [.inr (.inl 7), .inr (.inl 8)], pP, [(none, [], ((pU.set 1 (.inl (0, 940, [(2002, 0, 940)]))).set 25 (.inl (0, 4, []))))], 5, 103, [])
/-- 115: RecastStage$PlayReader.readPart -/
def kc_115 : ck_K := (yX7_readPart, cX7_readPart, 2, none, 7, [.inr (.inl 7), .inr (.inl 8)], pP, [(none, [], (((pU.set 1 (.inl (0, 940, [(2002, 0, 940)]))).set 2 (.inl (0, 6, [(2004, 0, 1)]))).set 25 (.inl (0, 4, []))))], 5, 103, [])
/-- 116: RecastStage$PlayReader.readRest -/
def kc_116 : ck_K := (yX7_readRest, cX7_readRest, 2, none, 7, [.inr (.inl 7), .inr (.inl 8)], pP, [(none, [], ((pU.set 1 (.inl (0, 940, [(2002, 0, 940)]))).set 25 (.inl (0, 4, []))))], 4, 80, [])
/-- 117: RecastStage$PlayReader.readScene -/
def kc_117 : ck_K := (yX7_readScene, cX7_readScene, 5, none, 7, [.inr (.inl 7), .inr (.inl 8)], pP, [(none, [], (((pU.set 1 (.inl (0, 940, [(2002, 0, 940)]))).set 6 (.inl (0, 12, [(2012, 0, 1)]))).set 25 (.inl (0, 4, []))))], 5, 102, [(74, ([(3, .inl (0, 7, [])), (2, .inl (0, 11, [(2012, 0, 0)])), (0, .inr (.inl 7)), (1, .inr (.inl 8))], [], ((((pU.set 1 (.inl (0, 940, [(2002, 0, 940)]))).set 5 (.inl (1, 6, [(2010, 0, 0)]))).set 6 (.inl (1, 12, [(2012, 1, 1)]))).set 25 (.inl (0, 4, [])))), (14, [(3, -2)]))])
/-- 118: RecastStage$PlayReader.readShows -/
def kc_118 : ck_K := (yX7_readShows, cX7_readShows, 4, none, 7, [.inr (.inl 7), .inr (.inl 8)], pP, [(none, [], ((pU.set 1 (.inl (0, 940, [(2002, 0, 940)]))).set 25 (.inl (0, 4, []))))], 5, 102, [])
/-- 119: RecastStage$PlayReader.readLine -/
def kc_119 : ck_K := (yX7_readLine, cX7_readLine, 2, none, 7, [.inr (.inl 7), .inr (.inl 8)], pP, [(none, [], (((((((pU.set 1 (.inl (0, 940, [(2002, 0, 940)]))).set 2 (.inl (0, 6, [(2004, 0, 1)]))).set 3 (.inl (0, 6, [(2006, 0, 1)]))).set 4 (.inl (0, 8, [(2008, 0, 1)]))).set 5 (.inl (0, 6, [(2010, 0, 1)]))).set 6 (.inl (0, 12, [(2012, 0, 1)]))).set 25 (.inl (0, 4, []))))], 6, 126, [])
/-- 120: RecastStage$Reader.open -/
def kc_120 : ck_K := (yX8_open, cX8_open, 2, none, 8, [.inr (.inl 8), .inl (0, 900, [])], pP, [(none, [], ((pU.set 1 (.inl (0, 940, []))).set 25 (.inl (0, 0, []))))], 4, 80, [])
/-- 121: RecastStage$Sentence.addStep -/
def kc_121 : ck_K := (yX9_addStep, cX9_addStep, 4, none, 9, [.inr (.inl 14), cF, cF, cF], pP, [(none, [], (pU.set 10 (.inl (1, 40, [(2020, 0, 1)]))))], 1, 12, [])
/-- 122: RecastStage$Sentence.clear -/
def kc_122 : ck_K := (yX9_clear, cX9_clear, 1, none, 9, [.inr (.inl 9)], pP, [(none, [], pU)], 1, 12, [])
/-- 123: RecastStage$Sentence.clear -/
def kc_123 : ck_K := (yX9_clear, cX9_clear, 1, none, 9, [.inr (.inl 14)], pP, [(none, [], ((pU.set 9 (.inl (0, 0, []))).set 10 (.inl (0, 0, []))))], 1, 12, [])
/-- 124: RecastStage$Sentence.compares -/
def kc_124 : ck_K := (yX9_compares, cX9_compares, 3, (some .boolean), 9, [.inr (.inl 9), cF, .inl (0, 39, [])], pP, [(some (.inl (0, 0, [])), [], pU), (some (.inl (1, 1, [])), [], pU)], 1, 12, [])
/-- 125: RecastStage$Sentence.copyFrom -/
def kc_125 : ck_K := (yX9_copyFrom, cX9_copyFrom, 2, none, 9, [.inr (.inl 110), .inr (.inl 9)], pP, [(none, [], pU)], 1, 26, [])
/-- 126: RecastStage$Sentence.copyFrom -/
def kc_126 : ck_K := (yX9_copyFrom, cX9_copyFrom, 2, none, 9, [.inr (.inl 9), .inr (.inl 14)], pP, [(none, [], pU)], 1, 26, [])
/-- 127: RecastStage$Sentence.copyFrom -/
def kc_127 : ck_K := (yX9_copyFrom, cX9_copyFrom, 2, none, 9, [.inr (.inl 9), .inr (.inl 110)], pP, [(none, [], pU)], 1, 26, [])
/-- 128: RecastStage$Sentence.copyFrom -/
def kc_128 : ck_K := (yX9_copyFrom, cX9_copyFrom, 2, none, 9, [.inr (.inl 111), .inr (.inl 9)], pP, [(none, [], pU)], 1, 26, [])
/-- 129: RecastStage$Sentence.copyFrom -/
def kc_129 : ck_K := (yX9_copyFrom, cX9_copyFrom, 2, none, 9, [.inr (.inl 9), .inr (.inl 111)], pP, [(none, [], pU)], 1, 26, [])
/-- 130: RecastStage$Sentence.holdsFor -/
def kc_130 : ck_K := (yX9_holdsFor, cX9_holdsFor, 5, (some .boolean), 9, [.inr (.inl 9), .inl (0, 7, []), .inl (0, 39, []), .inr (.inl 6), .inr (.inl 2)], pP, [(some (.inl (0, 0, [])), [], pU), (some (.inl (1, 1, [])), [], pU)], 2, 34, [])
/-- 131: RecastStage$Sentence.menOfOne -/
def kc_131 : ck_K := (yX9_menOfOne, cX9_menOfOne, 6, (some .int), 9, [.inr (.inl 9), .inl (0, 39, []), .inr (.inl 6), .inr (.inl 2)], pP, [(some (cF), [], pU)], 5, 100, [(65, ([(5, .inl (0, 8, [])), (4, cF), (0, .inr (.inl 9)), (1, .inl (0, 39, [(2, 0, 0)])), (2, .inr (.inl 6)), (3, .inr (.inl 2))], [], pU), (16, [(5, -2)]))])
/-- 132: RecastStage$Sentence.menOf -/
def kc_132 : ck_K := (yX9_menOf, cX9_menOf, 6, (some .int), 9, [.inr (.inl 9), .inr (.inl 6), .inr (.inl 2)], pP, [(some (cF), [], pU)], 6, 125, [(5, ([(4, .inl (0, 40, [])), (3, .inl (-1, 39, [])), (0, .inr (.inl 9)), (1, .inr (.inl 6)), (2, .inr (.inl 2))], [], pU), (80, [(4, -2)]))])
/-- 133: RecastStage$Sentence.readPlainOne -/
def kc_133 : ck_K := (yX9_readPlainOne, cX9_readPlainOne, 5, none, 9, [.inr (.inl 14), .inr (.inl 8), .inr (.inl 6), cF], pP, [(none, [], (((pU.set 1 (.inl (0, 940, [(2002, 0, 940)]))).set 10 (.inl (0, 40, [(2020, 0, 1)]))).set 25 (.inl (0, 4, []))))], 5, 103, [])
/-- 134: RecastStage$Sentence.readOne -/
def kc_134 : ck_K := (yX9_readOne, cX9_readOne, 6, none, 9, [.inr (.inl 14), .inr (.inl 8), .inr (.inl 6), .inl (9, 9, [])], pP, [(none, [], (pU.set 25 (.inl (1, 4, []))))], 2, 33, [])
/-- 135: RecastStage$Sentence.readAll -/
def kc_135 : ck_K := (yX9_readAll, cX9_readAll, 5, none, 9, [.inr (.inl 14), .inr (.inl 8), .inr (.inl 6), .inl (8, 8, [])], pP, [(none, [], (pU.set 25 (.inl (1, 4, []))))], 3, 58, [(12, ([(4, .inl (0, 0, [])), (0, .inr (.inl 14)), (1, .inr (.inl 8)), (2, .inr (.inl 6)), (3, .inl (8, 8, [(6, 0, 0)]))], [], (pU.set 25 (.inl (1, 4, [])))), (0, []))])
/-- 136: RecastStage$Sentence.readCond -/
def kc_136 : ck_K := (yX9_readCond, cX9_readCond, 5, none, 9, [.inr (.inl 14), .inr (.inl 8), .inr (.inl 6), .inl (8, 8, [])], pP, [(none, [], (pU.set 25 (.inl (1, 4, []))))], 4, 82, [(10, ([(4, .inl (0, 0, [])), (0, .inr (.inl 14)), (1, .inr (.inl 8)), (2, .inr (.inl 6)), (3, .inl (8, 8, [(6, 0, 0)]))], [], (pU.set 25 (.inl (1, 4, [])))), (0, []))])
/-- 137: RecastStage$Sentence.readOne -/
def kc_137 : ck_K := (yX9_readOne, cX9_readOne, 6, none, 9, [.inr (.inl 14), .inr (.inl 8), .inr (.inl 6), .inl (8, 8, [])], pP, [(none, [], ((((pU.set 1 (.inl (0, 940, [(2002, 0, 940)]))).set 9 (.inl (0, 20, [(2018, 0, 1)]))).set 10 (.inl (0, 40, [(2020, 0, 1)]))).set 25 (.inl (0, 4, []))))], 6, 127, [])
/-- 138: RecastStage$Sentence.readAll -/
def kc_138 : ck_K := (yX9_readAll, cX9_readAll, 5, none, 9, [.inr (.inl 14), .inr (.inl 8), .inr (.inl 6), .inl (7, 7, [])], pP, [(none, [], ((((pU.set 1 (.inl (0, 940, [(2002, 0, 940)]))).set 9 (.inl (0, 20, [(2018, 0, 20)]))).set 10 (.inl (0, 40, [(2020, 0, 40)]))).set 25 (.inl (0, 4, []))))], 7, 152, [(12, ([(4, .inl (0, 20, [])), (0, .inr (.inl 14)), (1, .inr (.inl 8)), (2, .inr (.inl 6)), (3, .inl (7, 7, [(6, 0, 0)]))], [], ((((pU.set 1 (.inl (0, 940, [(2002, 0, 940)]))).set 9 (.inl (0, 20, [(2018, 0, 20)]))).set 10 (.inl (0, 40, [(2020, 0, 40)]))).set 25 (.inl (0, 4, [])))), (40, [(4, -2)]))])
/-- 139: RecastStage$Sentence.readCond -/
def kc_139 : ck_K := (yX9_readCond, cX9_readCond, 5, none, 9, [.inr (.inl 14), .inr (.inl 8), .inr (.inl 6), .inl (7, 7, [])], pP, [(none, [], ((((pU.set 1 (.inl (0, 940, [(2002, 0, 940)]))).set 9 (.inl (0, 20, [(2018, 0, 20)]))).set 10 (.inl (0, 40, [(2020, 0, 40)]))).set 25 (.inl (0, 4, []))))], 8, 176, [(10, ([(4, .inl (0, 20, [])), (0, .inr (.inl 14)), (1, .inr (.inl 8)), (2, .inr (.inl 6)), (3, .inl (7, 7, [(6, 0, 0)]))], [], ((((pU.set 1 (.inl (0, 940, [(2002, 0, 940)]))).set 9 (.inl (0, 20, [(2018, 0, 20)]))).set 10 (.inl (0, 40, [(2020, 0, 40)]))).set 25 (.inl (0, 4, [])))), (40, [(4, -2)]))])
/-- 140: RecastStage$Sentence.readOne -/
def kc_140 : ck_K := (yX9_readOne, cX9_readOne, 6, none, 9, [.inr (.inl 14), .inr (.inl 8), .inr (.inl 6), .inl (7, 7, [])], pP, [(none, [], ((((pU.set 1 (.inl (0, 940, [(2002, 0, 940)]))).set 9 (.inl (0, 20, [(2018, 0, 20)]))).set 10 (.inl (0, 40, [(2020, 0, 40)]))).set 25 (.inl (0, 4, []))))], 9, 200, [])
/-- 141: RecastStage$Sentence.readAll -/
def kc_141 : ck_K := (yX9_readAll, cX9_readAll, 5, none, 9, [.inr (.inl 14), .inr (.inl 8), .inr (.inl 6), .inl (6, 6, [])], pP, [(none, [], ((((pU.set 1 (.inl (0, 940, [(2002, 0, 940)]))).set 9 (.inl (0, 20, [(2018, 0, 20)]))).set 10 (.inl (0, 40, [(2020, 0, 40)]))).set 25 (.inl (0, 4, []))))], 10, 225, [(12, ([(4, .inl (0, 20, [])), (0, .inr (.inl 14)), (1, .inr (.inl 8)), (2, .inr (.inl 6)), (3, .inl (6, 6, [(6, 0, 0)]))], [], ((((pU.set 1 (.inl (0, 940, [(2002, 0, 940)]))).set 9 (.inl (0, 20, [(2018, 0, 20)]))).set 10 (.inl (0, 40, [(2020, 0, 40)]))).set 25 (.inl (0, 4, [])))), (40, [(4, -2)]))])
/-- 142: RecastStage$Sentence.readCond -/
def kc_142 : ck_K := (yX9_readCond, cX9_readCond, 5, none, 9, [.inr (.inl 14), .inr (.inl 8), .inr (.inl 6), .inl (6, 6, [])], pP, [(none, [], ((((pU.set 1 (.inl (0, 940, [(2002, 0, 940)]))).set 9 (.inl (0, 20, [(2018, 0, 20)]))).set 10 (.inl (0, 40, [(2020, 0, 40)]))).set 25 (.inl (0, 4, []))))], 11, 249, [(10, ([(4, .inl (0, 20, [])), (0, .inr (.inl 14)), (1, .inr (.inl 8)), (2, .inr (.inl 6)), (3, .inl (6, 6, [(6, 0, 0)]))], [], ((((pU.set 1 (.inl (0, 940, [(2002, 0, 940)]))).set 9 (.inl (0, 20, [(2018, 0, 20)]))).set 10 (.inl (0, 40, [(2020, 0, 40)]))).set 25 (.inl (0, 4, [])))), (40, [(4, -2)]))])
/-- 143: RecastStage$Sentence.readOne -/
def kc_143 : ck_K := (yX9_readOne, cX9_readOne, 6, none, 9, [.inr (.inl 14), .inr (.inl 8), .inr (.inl 6), .inl (6, 6, [])], pP, [(none, [], ((((pU.set 1 (.inl (0, 940, [(2002, 0, 940)]))).set 9 (.inl (0, 20, [(2018, 0, 20)]))).set 10 (.inl (0, 40, [(2020, 0, 40)]))).set 25 (.inl (0, 4, []))))], 12, 273, [])
/-- 144: RecastStage$Sentence.readAll -/
def kc_144 : ck_K := (yX9_readAll, cX9_readAll, 5, none, 9, [.inr (.inl 14), .inr (.inl 8), .inr (.inl 6), .inl (5, 5, [])], pP, [(none, [], ((((pU.set 1 (.inl (0, 940, [(2002, 0, 940)]))).set 9 (.inl (0, 20, [(2018, 0, 20)]))).set 10 (.inl (0, 40, [(2020, 0, 40)]))).set 25 (.inl (0, 4, []))))], 13, 298, [(12, ([(4, .inl (0, 20, [])), (0, .inr (.inl 14)), (1, .inr (.inl 8)), (2, .inr (.inl 6)), (3, .inl (5, 5, [(6, 0, 0)]))], [], ((((pU.set 1 (.inl (0, 940, [(2002, 0, 940)]))).set 9 (.inl (0, 20, [(2018, 0, 20)]))).set 10 (.inl (0, 40, [(2020, 0, 40)]))).set 25 (.inl (0, 4, [])))), (40, [(4, -2)]))])
/-- 145: RecastStage$Sentence.readCond -/
def kc_145 : ck_K := (yX9_readCond, cX9_readCond, 5, none, 9, [.inr (.inl 14), .inr (.inl 8), .inr (.inl 6), .inl (5, 5, [])], pP, [(none, [], ((((pU.set 1 (.inl (0, 940, [(2002, 0, 940)]))).set 9 (.inl (0, 20, [(2018, 0, 20)]))).set 10 (.inl (0, 40, [(2020, 0, 40)]))).set 25 (.inl (0, 4, []))))], 14, 322, [(10, ([(4, .inl (0, 20, [])), (0, .inr (.inl 14)), (1, .inr (.inl 8)), (2, .inr (.inl 6)), (3, .inl (5, 5, [(6, 0, 0)]))], [], ((((pU.set 1 (.inl (0, 940, [(2002, 0, 940)]))).set 9 (.inl (0, 20, [(2018, 0, 20)]))).set 10 (.inl (0, 40, [(2020, 0, 40)]))).set 25 (.inl (0, 4, [])))), (40, [(4, -2)]))])
/-- 146: RecastStage$Sentence.readOne -/
def kc_146 : ck_K := (yX9_readOne, cX9_readOne, 6, none, 9, [.inr (.inl 14), .inr (.inl 8), .inr (.inl 6), .inl (5, 5, [])], pP, [(none, [], ((((pU.set 1 (.inl (0, 940, [(2002, 0, 940)]))).set 9 (.inl (0, 20, [(2018, 0, 20)]))).set 10 (.inl (0, 40, [(2020, 0, 40)]))).set 25 (.inl (0, 4, []))))], 15, 346, [])
/-- 147: RecastStage$Sentence.readAll -/
def kc_147 : ck_K := (yX9_readAll, cX9_readAll, 5, none, 9, [.inr (.inl 14), .inr (.inl 8), .inr (.inl 6), .inl (4, 4, [])], pP, [(none, [], ((((pU.set 1 (.inl (0, 940, [(2002, 0, 940)]))).set 9 (.inl (0, 20, [(2018, 0, 20)]))).set 10 (.inl (0, 40, [(2020, 0, 40)]))).set 25 (.inl (0, 4, []))))], 16, 371, [(12, ([(4, .inl (0, 20, [])), (0, .inr (.inl 14)), (1, .inr (.inl 8)), (2, .inr (.inl 6)), (3, .inl (4, 4, [(6, 0, 0)]))], [], ((((pU.set 1 (.inl (0, 940, [(2002, 0, 940)]))).set 9 (.inl (0, 20, [(2018, 0, 20)]))).set 10 (.inl (0, 40, [(2020, 0, 40)]))).set 25 (.inl (0, 4, [])))), (40, [(4, -2)]))])
/-- 148: RecastStage$Sentence.readCond -/
def kc_148 : ck_K := (yX9_readCond, cX9_readCond, 5, none, 9, [.inr (.inl 14), .inr (.inl 8), .inr (.inl 6), .inl (4, 4, [])], pP, [(none, [], ((((pU.set 1 (.inl (0, 940, [(2002, 0, 940)]))).set 9 (.inl (0, 20, [(2018, 0, 20)]))).set 10 (.inl (0, 40, [(2020, 0, 40)]))).set 25 (.inl (0, 4, []))))], 17, 395, [(10, ([(4, .inl (0, 20, [])), (0, .inr (.inl 14)), (1, .inr (.inl 8)), (2, .inr (.inl 6)), (3, .inl (4, 4, [(6, 0, 0)]))], [], ((((pU.set 1 (.inl (0, 940, [(2002, 0, 940)]))).set 9 (.inl (0, 20, [(2018, 0, 20)]))).set 10 (.inl (0, 40, [(2020, 0, 40)]))).set 25 (.inl (0, 4, [])))), (40, [(4, -2)]))])
/-- 149: RecastStage$Sentence.readOne -/
def kc_149 : ck_K := (yX9_readOne, cX9_readOne, 6, none, 9, [.inr (.inl 14), .inr (.inl 8), .inr (.inl 6), .inl (4, 4, [])], pP, [(none, [], ((((pU.set 1 (.inl (0, 940, [(2002, 0, 940)]))).set 9 (.inl (0, 20, [(2018, 0, 20)]))).set 10 (.inl (0, 40, [(2020, 0, 40)]))).set 25 (.inl (0, 4, []))))], 18, 419, [])
/-- 150: RecastStage$Sentence.readAll -/
def kc_150 : ck_K := (yX9_readAll, cX9_readAll, 5, none, 9, [.inr (.inl 14), .inr (.inl 8), .inr (.inl 6), .inl (3, 3, [])], pP, [(none, [], ((((pU.set 1 (.inl (0, 940, [(2002, 0, 940)]))).set 9 (.inl (0, 20, [(2018, 0, 20)]))).set 10 (.inl (0, 40, [(2020, 0, 40)]))).set 25 (.inl (0, 4, []))))], 19, 444, [(12, ([(4, .inl (0, 20, [])), (0, .inr (.inl 14)), (1, .inr (.inl 8)), (2, .inr (.inl 6)), (3, .inl (3, 3, [(6, 0, 0)]))], [], ((((pU.set 1 (.inl (0, 940, [(2002, 0, 940)]))).set 9 (.inl (0, 20, [(2018, 0, 20)]))).set 10 (.inl (0, 40, [(2020, 0, 40)]))).set 25 (.inl (0, 4, [])))), (40, [(4, -2)]))])
/-- 151: RecastStage$Sentence.readCond -/
def kc_151 : ck_K := (yX9_readCond, cX9_readCond, 5, none, 9, [.inr (.inl 14), .inr (.inl 8), .inr (.inl 6), .inl (3, 3, [])], pP, [(none, [], ((((pU.set 1 (.inl (0, 940, [(2002, 0, 940)]))).set 9 (.inl (0, 20, [(2018, 0, 20)]))).set 10 (.inl (0, 40, [(2020, 0, 40)]))).set 25 (.inl (0, 4, []))))], 20, 468, [(10, ([(4, .inl (0, 20, [])), (0, .inr (.inl 14)), (1, .inr (.inl 8)), (2, .inr (.inl 6)), (3, .inl (3, 3, [(6, 0, 0)]))], [], ((((pU.set 1 (.inl (0, 940, [(2002, 0, 940)]))).set 9 (.inl (0, 20, [(2018, 0, 20)]))).set 10 (.inl (0, 40, [(2020, 0, 40)]))).set 25 (.inl (0, 4, [])))), (40, [(4, -2)]))])
/-- 152: RecastStage$Sentence.readOne -/
def kc_152 : ck_K := (yX9_readOne, cX9_readOne, 6, none, 9, [.inr (.inl 14), .inr (.inl 8), .inr (.inl 6), .inl (3, 3, [])], pP, [(none, [], ((((pU.set 1 (.inl (0, 940, [(2002, 0, 940)]))).set 9 (.inl (0, 20, [(2018, 0, 20)]))).set 10 (.inl (0, 40, [(2020, 0, 40)]))).set 25 (.inl (0, 4, []))))], 21, 492, [])
/-- 153: RecastStage$Sentence.readAll -/
def kc_153 : ck_K := (yX9_readAll, cX9_readAll, 5, none, 9, [.inr (.inl 14), .inr (.inl 8), .inr (.inl 6), .inl (2, 2, [])], pP, [(none, [], ((((pU.set 1 (.inl (0, 940, [(2002, 0, 940)]))).set 9 (.inl (0, 20, [(2018, 0, 20)]))).set 10 (.inl (0, 40, [(2020, 0, 40)]))).set 25 (.inl (0, 4, []))))], 22, 517, [(12, ([(4, .inl (0, 20, [])), (0, .inr (.inl 14)), (1, .inr (.inl 8)), (2, .inr (.inl 6)), (3, .inl (2, 2, [(6, 0, 0)]))], [], ((((pU.set 1 (.inl (0, 940, [(2002, 0, 940)]))).set 9 (.inl (0, 20, [(2018, 0, 20)]))).set 10 (.inl (0, 40, [(2020, 0, 40)]))).set 25 (.inl (0, 4, [])))), (40, [(4, -2)]))])
/-- 154: RecastStage$Sentence.readCond -/
def kc_154 : ck_K := (yX9_readCond, cX9_readCond, 5, none, 9, [.inr (.inl 14), .inr (.inl 8), .inr (.inl 6), .inl (2, 2, [])], pP, [(none, [], ((((pU.set 1 (.inl (0, 940, [(2002, 0, 940)]))).set 9 (.inl (0, 20, [(2018, 0, 20)]))).set 10 (.inl (0, 40, [(2020, 0, 40)]))).set 25 (.inl (0, 4, []))))], 23, 541, [(10, ([(4, .inl (0, 20, [])), (0, .inr (.inl 14)), (1, .inr (.inl 8)), (2, .inr (.inl 6)), (3, .inl (2, 2, [(6, 0, 0)]))], [], ((((pU.set 1 (.inl (0, 940, [(2002, 0, 940)]))).set 9 (.inl (0, 20, [(2018, 0, 20)]))).set 10 (.inl (0, 40, [(2020, 0, 40)]))).set 25 (.inl (0, 4, [])))), (40, [(4, -2)]))])
/-- 155: RecastStage$Sentence.readOne -/
def kc_155 : ck_K := (yX9_readOne, cX9_readOne, 6, none, 9, [.inr (.inl 14), .inr (.inl 8), .inr (.inl 6), .inl (2, 2, [])], pP, [(none, [], ((((pU.set 1 (.inl (0, 940, [(2002, 0, 940)]))).set 9 (.inl (0, 20, [(2018, 0, 20)]))).set 10 (.inl (0, 40, [(2020, 0, 40)]))).set 25 (.inl (0, 4, []))))], 24, 565, [])
/-- 156: RecastStage$Sentence.readAll -/
def kc_156 : ck_K := (yX9_readAll, cX9_readAll, 5, none, 9, [.inr (.inl 14), .inr (.inl 8), .inr (.inl 6), .inl (1, 1, [])], pP, [(none, [], ((((pU.set 1 (.inl (0, 940, [(2002, 0, 940)]))).set 9 (.inl (0, 20, [(2018, 0, 20)]))).set 10 (.inl (0, 40, [(2020, 0, 40)]))).set 25 (.inl (0, 4, []))))], 25, 590, [(12, ([(4, .inl (0, 20, [])), (0, .inr (.inl 14)), (1, .inr (.inl 8)), (2, .inr (.inl 6)), (3, .inl (1, 1, [(6, 0, 0)]))], [], ((((pU.set 1 (.inl (0, 940, [(2002, 0, 940)]))).set 9 (.inl (0, 20, [(2018, 0, 20)]))).set 10 (.inl (0, 40, [(2020, 0, 40)]))).set 25 (.inl (0, 4, [])))), (40, [(4, -2)]))])
/-- 157: RecastStage$Sentence.readCond -/
def kc_157 : ck_K := (yX9_readCond, cX9_readCond, 5, none, 9, [.inr (.inl 14), .inr (.inl 8), .inr (.inl 6), .inl (1, 1, [])], pP, [(none, [], ((((pU.set 1 (.inl (0, 940, [(2002, 0, 940)]))).set 9 (.inl (0, 20, [(2018, 0, 20)]))).set 10 (.inl (0, 40, [(2020, 0, 40)]))).set 25 (.inl (0, 4, []))))], 26, 614, [(10, ([(4, .inl (0, 20, [])), (0, .inr (.inl 14)), (1, .inr (.inl 8)), (2, .inr (.inl 6)), (3, .inl (1, 1, [(6, 0, 0)]))], [], ((((pU.set 1 (.inl (0, 940, [(2002, 0, 940)]))).set 9 (.inl (0, 20, [(2018, 0, 20)]))).set 10 (.inl (0, 40, [(2020, 0, 40)]))).set 25 (.inl (0, 4, [])))), (40, [(4, -2)]))])
/-- 158: RecastStage$Sentence.readOne -/
def kc_158 : ck_K := (yX9_readOne, cX9_readOne, 6, none, 9, [.inr (.inl 14), .inr (.inl 8), .inr (.inl 6), .inl (1, 1, [])], pP, [(none, [], ((((pU.set 1 (.inl (0, 940, [(2002, 0, 940)]))).set 9 (.inl (0, 20, [(2018, 0, 20)]))).set 10 (.inl (0, 40, [(2020, 0, 40)]))).set 25 (.inl (0, 4, []))))], 27, 638, [])
/-- 159: RecastStage$Sentence.readAll -/
def kc_159 : ck_K := (yX9_readAll, cX9_readAll, 5, none, 9, [.inr (.inl 14), .inr (.inl 8), .inr (.inl 6), .inl (0, 0, [])], pP, [(none, [], ((((pU.set 1 (.inl (0, 940, [(2002, 0, 940)]))).set 9 (.inl (0, 20, [(2018, 0, 20)]))).set 10 (.inl (0, 40, [(2020, 0, 40)]))).set 25 (.inl (0, 4, []))))], 28, 663, [(12, ([(4, .inl (0, 20, [])), (0, .inr (.inl 14)), (1, .inr (.inl 8)), (2, .inr (.inl 6)), (3, .inl (0, 0, [(6, 0, 0)]))], [], ((((pU.set 1 (.inl (0, 940, [(2002, 0, 940)]))).set 9 (.inl (0, 20, [(2018, 0, 20)]))).set 10 (.inl (0, 40, [(2020, 0, 40)]))).set 25 (.inl (0, 4, [])))), (40, [(4, -2)]))])
/-- 160: RecastStage$Sentence.readCond -/
def kc_160 : ck_K := (yX9_readCond, cX9_readCond, 5, none, 9, [.inr (.inl 14), .inr (.inl 8), .inr (.inl 6), .inl (0, 0, [])], pP, [(none, [], ((((pU.set 1 (.inl (0, 940, [(2002, 0, 940)]))).set 9 (.inl (0, 20, [(2018, 0, 20)]))).set 10 (.inl (0, 40, [(2020, 0, 40)]))).set 25 (.inl (0, 4, []))))], 29, 687, [(10, ([(4, .inl (0, 20, [])), (0, .inr (.inl 14)), (1, .inr (.inl 8)), (2, .inr (.inl 6)), (3, .inl (0, 0, [(6, 0, 0)]))], [], ((((pU.set 1 (.inl (0, 940, [(2002, 0, 940)]))).set 9 (.inl (0, 20, [(2018, 0, 20)]))).set 10 (.inl (0, 40, [(2020, 0, 40)]))).set 25 (.inl (0, 4, [])))), (40, [(4, -2)]))])
/-- 161: RecastStage$Sentence.read -/
def kc_161 : ck_K := (yX9_read, cX9_read, 3, none, 9, [.inr (.inl 14), .inr (.inl 8), .inr (.inl 6)], pP, [(none, [], ((((pU.set 1 (.inl (0, 940, [(2002, 0, 940)]))).set 9 (.inl (0, 20, []))).set 10 (.inl (0, 40, []))).set 25 (.inl (0, 4, []))))], 30, 711, [])
/-- 162: RecastStage$Tape.hasRoom -/
def kc_162 : ck_K := (yX10_hasRoom, cX10_hasRoom, 2, (some .boolean), 10, [.inr (.inl 10), .inl (4, 4, [])], pP, [(some (.inl (0, 0, [])), [], (pU.set 0 (.inl (937, 940, [(2000, 0, 0)])))), (some (.inl (1, 1, [])), [], (pU.set 0 (.inl (0, 936, [(2000, 0, 0)]))))], 1, 12, [])
/-- 163: RecastStage$Tape.hasRoom -/
def kc_163 : ck_K := (yX10_hasRoom, cX10_hasRoom, 2, (some .boolean), 10, [.inr (.inl 10), .inl (20, 20, [])], pP, [(some (.inl (0, 0, [])), [], (pU.set 0 (.inl (921, 940, [(2000, 0, 0)])))), (some (.inl (1, 1, [])), [], (pU.set 0 (.inl (0, 920, [(2000, 0, 0)]))))], 1, 12, [])
/-- 164: RecastStage.act -/
def kc_164 : ck_K := (yX11_act, cX11_act, 3, (some .int), 11, [.inr (.inl 11), cF, cF], pP, [(some (cF), [], pU)], 2, 35, [])
/-- 165: RecastStage.bestAs -/
def kc_165 : ck_K := (yX11_bestAs, cX11_bestAs, 2, (some .int), 11, [.inr (.inl 11), cF], pP, [(some (.inl (-1, 7, [])), [], pU)], 2, 33, [])
/-- 166: RecastStage.booked -/
def kc_166 : ck_K := (yX11_booked, cX11_booked, 2, (some .int), 11, [.inr (.inl 11), cF], pP, [(some (cF), [], pU)], 1, 12, [])
/-- 167: RecastStage.bowed -/
def kc_167 : ck_K := (yX11_bowed, cX11_bowed, 3, (some .int), 11, [.inr (.inl 11), cF], pP, [(some (cF), [], (pU.set 7 (.inl (0, 6, []))))], 10, 225, [])
/-- 168: RecastStage.casts -/
def kc_168 : ck_K := (yX11_casts, cX11_casts, 1, (some .int), 11, [.inr (.inl 11)], pP, [(some (cF), [], (pU.set 7 (.inl (0, 6, []))))], 10, 225, [])
/-- 169: RecastStage.count -/
def kc_169 : ck_K := (yX11_count, cX11_count, 2, (some .int), 11, [.inr (.inl 11), cF], pP, [(some (.inl (-1, 940, [])), [], pU)], 1, 12, [])
/-- 170: RecastStage.end -/
def kc_170 : ck_K := (yX11_end, cX11_end, 2, (some .boolean), 11, [.inr (.inl 11), cF], pP, [(some (.inl (0, 0, [])), [], pU), (some (.inl (1, 1, [])), [(1, 0, 940)], (pU.set 0 (.inl (0, 940, []))))], 1, 12, [])
/-- 171: RecastStage.fault -/
def kc_171 : ck_K := (yX11_fault, cX11_fault, 1, (some .int), 11, [.inr (.inl 11)], pP, [(some (.inl (0, 4, [])), [], pU)], 1, 12, [])
/-- 172: RecastStage.firstWithMost -/
def kc_172 : ck_K := (yX11_firstWithMost, cX11_firstWithMost, 5, (some .int), 11, [.inr (.inl 11), .inr (.inl 21), cF], pP, [(some (.inl (-1, 7, [])), [], pU)], 1, 12, [(5, ([(4, .inl (0, 8, [])), (3, .inl (-1, 7, [])), (0, .inr (.inl 11)), (1, .inr (.inl 21)), (2, .inl (-2147483648, 2147483647, [(4, 0, 0)]))], [], pU), (16, [(4, -2)]))])
/-- 173: RecastStage.favourite -/
def kc_173 : ck_K := (yX11_favourite, cX11_favourite, 2, (some .int), 11, [.inr (.inl 11), cF], pP, [(some (.inl (-1, 7, [])), [], pU)], 2, 36, [])
/-- 174: RecastStage.lacks -/
def kc_174 : ck_K := (yX11_lacks, cX11_lacks, 1, (some .int), 11, [.inr (.inl 11)], pP, [(some (cF), [], (pU.set 7 (.inl (0, 6, []))))], 6, 135, [])
/-- 175: RecastStage.least -/
def kc_175 : ck_K := (yX11_least, cX11_least, 1, (some .int), 11, [.inr (.inl 11)], pP, [(some (cF), [], (pU.set 7 (.inl (0, 6, []))))], 11, 252, [])
/-- 176: RecastStage.now -/
def kc_176 : ck_K := (yX11_now, cX11_now, 2, (some .int), 11, [.inr (.inl 11), cF], pP, [(some (cF), [], pU)], 2, 34, [])
/-- 177: RecastStage.part -/
def kc_177 : ck_K := (yX11_part, cX11_part, 3, (some .int), 11, [.inr (.inl 11), cF, cF], pP, [(some (cF), [], pU)], 3, 56, [])
/-- 178: RecastStage.price -/
def kc_178 : ck_K := (yX11_price, cX11_price, 2, (some .int), 11, [.inr (.inl 11), cF], pP, [(some (cF), [], pU)], 2, 33, [])
/-- 179: RecastStage.said -/
def kc_179 : ck_K := (yX11_said, cX11_said, 5, (some .int), 11, [.inr (.inl 11), cF], pP, [(some (.inl (-1, 63, [])), [], pU)], 7, 150, [(43, ([(4, .inl (0, 8, [])), (3, cF), (2, cF), (0, .inr (.inl 11))], [], pU), (16, [(4, -2)]))])
/-- 180: RecastStage.scene -/
def kc_180 : ck_K := (yX11_scene, cX11_scene, 3, (some .int), 11, [.inr (.inl 11), cF, cF], pP, [(some (cF), [], pU)], 1, 12, [])
/-- 181: RecastStage.sentence -/
def kc_181 : ck_K := (yX11_sentence, cX11_sentence, 1, (some .int), 11, [.inr (.inl 11)], pP, [(some (.inl (-941, 20, [])), [], ((((((pU.set 0 (.inl (0, 0, []))).set 1 (.inl (0, 940, []))).set 9 (.inl (0, 20, []))).set 10 (.inl (0, 40, []))).set 25 (.inl (0, 4, []))).set 30 (.inl (0, 4, []))))], 31, 733, [])
/-- 182: RecastStage.sure -/
def kc_182 : ck_K := (yX11_sure, cX11_sure, 1, (some .int), 11, [.inr (.inl 11)], pP, [(some (cF), [], pU)], 5, 100, [])
/-- 183: RecastStage.surely -/
def kc_183 : ck_K := (yX11_surely, cX11_surely, 1, (some .int), 11, [.inr (.inl 11)], pP, [(some (cF), [], (pU.set 7 (.inl (0, 6, []))))], 10, 225, [])
/-- 184: RecastStage.suspects -/
def kc_184 : ck_K := (yX11_suspects, cX11_suspects, 2, (some .int), 11, [.inr (.inl 11), cF], pP, [(some (.inl (-1, 63, [])), [], pU)], 3, 56, [])
/-- 185: RecastStage.tells -/
def kc_185 : ck_K := (yX11_tells, cX11_tells, 4, (some .int), 11, [.inr (.inl 11), cF], pP, [(some (.inl (-2147483648, 5, [])), [], pU)], 4, 77, [(45, ([(3, cF), (2, cF), (0, .inr (.inl 11))], [], pU), (4294967294, [(3, -2)]))])
/-- 186: RecastStage.wants -/
def kc_186 : ck_K := (yX11_wants, cX11_wants, 2, (some .int), 11, [.inr (.inl 11), cF], pP, [(some (cF), [], pU)], 2, 33, [])
/-- 187: RecastStage.whispers -/
def kc_187 : ck_K := (yX11_whispers, cX11_whispers, 1, (some .int), 11, [.inr (.inl 11)], pP, [(some (cF), [], (pU.set 7 (.inl (0, 6, []))))], 11, 252, [])
/-- 188: RecastStage.why -/
def kc_188 : ck_K := (yX11_why, cX11_why, 3, (some .int), 11, [.inr (.inl 11), cF, cF], pP, [(some (.inl (-1, 10, [])), [], pU)], 5, 106, [])
/-- 189: RecastStageModel.factsOf -/
def kc_189 : ck_K := (yX12_factsOf, cX12_factsOf, 4, (some .int), 12, [.inr (.inl 12), cF], pPM, [(some (cF), [], pUM)], 1, 12, [(4, ([(3, .inl (0, 12, [])), (2, cF), (0, .inr (.inl 12)), (1, .inl (-2147483648, 2147483647, [(2, 0, 0)]))], [], pUM), (24, [(3, -2)]))])
/-- 190: RecastStageModel.isIn -/
def kc_190 : ck_K := (yX12_isIn, cX12_isIn, 3, (some .boolean), 12, [.inl (0, 0, []), .inl (0, 0, []), .inl (1, 1, [])], pPM, [(some (.inl (1, 1, [])), [], pUM)], 1, 12, [])
/-- 191: RecastStageModel.isIn -/
def kc_191 : ck_K := (yX12_isIn, cX12_isIn, 3, (some .boolean), 12, [.inl (1, 1, []), .inl (0, 0, []), .inl (1, 1, [])], pPM, [(some (.inl (1, 1, [])), [], pUM)], 1, 12, [])
/-- 192: RecastStageModel.isIn -/
def kc_192 : ck_K := (yX12_isIn, cX12_isIn, 3, (some .boolean), 12, [cF, .inl (0, 0, []), .inl (-2, 1, [])], pPM, [(some (.inl (0, 0, [])), [], pUM), (some (.inl (1, 1, [])), [(0, 0, 1), (2, 0, 1)], pUM)], 1, 12, [])
/-- 193: RecastStageModel.isIn -/
def kc_193 : ck_K := (yX12_isIn, cX12_isIn, 3, (some .boolean), 12, [cF, .inl (0, 0, []), .inl (-2, 2, [])], pPM, [(some (.inl (0, 0, [])), [], pUM), (some (.inl (1, 1, [])), [(0, 0, 2), (2, 0, 2)], pUM)], 1, 12, [])
/-- 194: RecastStageModel.isIn -/
def kc_194 : ck_K := (yX12_isIn, cX12_isIn, 3, (some .boolean), 12, [cF, .inl (0, 0, []), .inl (-2, 3, [])], pPM, [(some (.inl (0, 0, [])), [], pUM), (some (.inl (1, 1, [])), [(0, 0, 3), (2, 0, 3)], pUM)], 1, 12, [])
/-- 195: RecastStageModel.isIn -/
def kc_195 : ck_K := (yX12_isIn, cX12_isIn, 3, (some .boolean), 12, [cF, .inl (0, 0, []), .inl (-2, 5, [])], pPM, [(some (.inl (0, 0, [])), [], pUM), (some (.inl (1, 1, [])), [(0, 0, 5), (2, 0, 5)], pUM)], 1, 12, [])
/-- 196: RecastStageModel.isIn -/
def kc_196 : ck_K := (yX12_isIn, cX12_isIn, 3, (some .boolean), 12, [cF, .inl (0, 0, []), .inl (-2, 7, [])], pPM, [(some (.inl (0, 0, [])), [], pUM), (some (.inl (1, 1, [])), [(0, 0, 7), (2, 0, 7)], pUM)], 1, 12, [])
/-- 197: RecastStageModel.isIn -/
def kc_197 : ck_K := (yX12_isIn, cX12_isIn, 3, (some .boolean), 12, [cF, .inl (0, 0, []), .inl (-2, 11, [])], pPM, [(some (.inl (0, 0, [])), [], pUM), (some (.inl (1, 1, [])), [(0, 0, 11), (2, 0, 11)], pUM)], 1, 12, [])
/-- 198: RecastStageModel.isIn -/
def kc_198 : ck_K := (yX12_isIn, cX12_isIn, 3, (some .boolean), 12, [cF, .inl (1, 1, []), .inl (40, 40, [])], pPM, [(some (.inl (0, 0, [])), [], pUM), (some (.inl (1, 1, [])), [(0, 1, 40)], pUM)], 1, 12, [])
/-- 199: RecastStageModel.isIn -/
def kc_199 : ck_K := (yX12_isIn, cX12_isIn, 3, (some .boolean), 12, [cF, cF, cF], pPM, [(some (.inl (0, 0, [])), [], pUM), (some (.inl (1, 1, [])), [], pUM)], 1, 12, [])
/-- 200: RecastStageModel.partsOf -/
def kc_200 : ck_K := (yX12_partsOf, cX12_partsOf, 4, (some .int), 12, [.inr (.inl 12), cF], pPM, [(some (cF), [], pUM)], 1, 12, [(4, ([(3, .inl (0, 12, [])), (2, cF), (0, .inr (.inl 12)), (1, .inl (-2147483648, 2147483647, [(2, 0, 0)]))], [], pUM), (24, [(3, -2)]))])
/-- 201: RecastStageModel.act -/
def kc_201 : ck_K := (yX12_act, cX12_act, 5, (some .int), 12, [.inr (.inl 12), cF, cF], pPM, [(some (cF), [], pUM)], 2, 35, [(37, ([(4, .inl (0, 12, [])), (3, cF), (0, .inr (.inl 12)), (1, .inl (0, 5, [(2, 0, 0)])), (2, .inl (0, 2, [(4, 0, 0)]))], [], (pUM.set 17 (.inl (1, 6, [(2034, 0, 0)])))), (24, [(4, -2)]))])
/-- 202: RecastStageModel.bitOf -/
def kc_202 : ck_K := (yX12_bitOf, cX12_bitOf, 2, (some .boolean), 12, [cF, cF], pPM, [(some (.inl (0, 0, [])), [], pUM), (some (.inl (1, 1, [])), [], pUM)], 1, 12, [])
/-- 203: RecastStageModel.areTogether -/
def kc_203 : ck_K := (yX12_areTogether, cX12_areTogether, 4, (some .boolean), 12, [.inr (.inl 12), cF, cF], pPM, [(some (.inl (0, 0, [])), [], pUM), (some (.inl (1, 1, [])), [], pUM)], 2, 33, [(2, ([(3, .inl (0, 12, [])), (0, .inr (.inl 12)), (1, .inl (-2147483648, 2147483647, [(2, 0, 0)])), (2, .inl (-2147483648, 2147483647, [(4, 0, 0)]))], [], pUM), (24, [(3, -2)]))])
/-- 204: RecastStageModel.back (by hand) -/
def kc_204 : ck_K := (yX12_back, cX12_back, 2, none, 12, [.inr (.inl 12)], pPM, [(none, [], (pU.set 16 (.inl (0, 6, [(2036, 0, 0)]))))], 1, 12, [])
/-- 205: RecastStageModel.bad -/
def kc_205 : ck_K := (yX12_bad, cX12_bad, 2, (some .boolean), 12, [.inr (.inl 12), .inl (1, 4, [])], pPM, [(some (.inl (0, 0, [])), [], (pUM.set 31 (.inl (1, 4, []))))], 1, 12, [])
/-- 206: RecastStageModel.isDigit -/
def kc_206 : ck_K := (yX12_isDigit, cX12_isDigit, 1, (some .boolean), 12, [cF], pPM, [(some (.inl (0, 0, [])), [], pUM), (some (.inl (1, 1, [])), [(0, 48, 57)], pUM)], 1, 12, [])
/-- 207: RecastStageModel.isSmall -/
def kc_207 : ck_K := (yX12_isSmall, cX12_isSmall, 1, (some .boolean), 12, [cF], pPM, [(some (.inl (0, 0, [])), [], pUM), (some (.inl (1, 1, [])), [(0, 97, 122)], pUM)], 1, 12, [])
/-- 208: RecastStageModel.peek -/
def kc_208 : ck_K := (yX12_peek, cX12_peek, 1, (some .int), 12, [.inr (.inl 12)], pPM, [(some (.inl (-1, -1, [])), [], pUM), (some (.inl (0, 255, [])), [], ((pUM.set 12 (.inl (1, 940, [(2024, 0, 0)]))).set 13 (.inl (0, 939, [(2026, 0, 0)]))))], 1, 12, [])
/-- 209: RecastStageModel.go -/
def kc_209 : ck_K := (yX12_go, cX12_go, 4, none, 12, [.inr (.inl 12)], pPM, [(none, [], ((pUM.set 13 (.inl (0, 940, [(2026, 0, 940)]))).set 14 (.inl (0, 0, [])))), (none, [], (((pUM.set 12 (.inl (1, 940, [(2024, 0, 0)]))).set 13 (.inl (0, 940, [(2026, 0, 940)]))).set 14 (.inl (4, 4, [])))), (none, [], (((pUM.set 12 (.inl (1, 940, [(2024, 0, 0)]))).set 13 (.inl (1, 940, [(2026, 1, 940)]))).set 14 (.inl (3, 3, [])))), (none, [], (((pUM.set 12 (.inl (1, 940, [(2024, 0, 0)]))).set 13 (.inl (0, 940, [(2026, 0, 940)]))).set 14 (.inl (1, 2, []))))], 2, 32, [(0, ([(0, .inr (.inl 12))], [], ((pUM.set 12 (.inl (1, 940, [(2024, 0, 0)]))).set 13 (.inl (1, 940, [(2026, 1, 940)])))), (6594, [(1013, -2)])), (80, ([(0, .inr (.inl 12))], [], (pUM.set 13 (.inl (0, 940, [(2026, 0, 940)])))), (4713, [])), (95, ([(1, .inl (0, 255, [])), (0, .inr (.inl 12))], [], ((pUM.set 12 (.inl (1, 940, [(2024, 0, 0)]))).set 13 (.inl (0, 939, [(2026, 0, 939)])))), (4712, [])), (109, ([(1, .inl (0, 255, [])), (0, .inr (.inl 12))], [], ((pUM.set 12 (.inl (1, 940, [(2024, 0, 0)]))).set 13 (.inl (0, 939, [(2026, 0, 939)])))), (4711, [])), (164, ([(1, .inl (48, 122, [])), (0, .inr (.inl 12))], [], ((pUM.set 12 (.inl (1, 940, [(2024, 0, 0)]))).set 13 (.inl (0, 939, [(2026, 0, 939)])))), (4710, [])), (181, ([(3, .inl (0, 1, [])), (2, .inl (0, 1, [])), (0, .inr (.inl 12))], [], ((pUM.set 12 (.inl (1, 940, [(2024, 0, 0)]))).set 13 (.inl (0, 940, [(2026, 0, 940)])))), (4704, [(1013, -5)])), (222, ([(3, .inl (0, 1, [])), (2, .inl (0, 1, [])), (0, .inr (.inl 12))], [], ((pUM.set 12 (.inl (1, 940, [(2024, 0, 0)]))).set 13 (.inl (0, 939, [(2026, 0, 939)])))), (4703, [(1013, -5)])), (248, ([(3, .inl (0, 1, [])), (2, .inl (0, 1, [])), (0, .inr (.inl 12))], [], ((pUM.set 12 (.inl (1, 940, [(2024, 0, 0)]))).set 13 (.inl (0, 939, [(2026, 0, 939)])))), (4702, [(1013, -5)])), (275, ([(3, .inl (0, 1, [])), (2, .inl (0, 1, [])), (0, .inr (.inl 12))], [], ((pUM.set 12 (.inl (1, 940, [(2024, 0, 0)]))).set 13 (.inl (0, 939, [(2026, 0, 939)])))), (4701, [(1013, -5)])), (298, ([(3, .inl (0, 1, [])), (2, .inl (0, 1, [])), (0, .inr (.inl 12))], [], ((pUM.set 12 (.inl (1, 940, [(2024, 0, 0)]))).set 13 (.inl (0, 940, [(2026, 0, 940)])))), (0, []))])
/-- 210: RecastStageModel.isSign -/
def kc_210 : ck_K := (yX12_isSign, cX12_isSign, 2, (some .boolean), 12, [.inr (.inl 12), cF], pPM, [(some (.inl (0, 0, [])), [], pUM), (some (.inl (1, 1, [])), [], (pUM.set 14 (.inl (3, 3, [(2028, 0, 0)]))))], 1, 12, [])
/-- 211: RecastStageModel.isWord -/
def kc_211 : ck_K := (yX12_isWord, cX12_isWord, 3, (some .boolean), 12, [.inr (.inl 12), .inr (.inr ())], pPM, [(some (.inl (0, 0, [])), [], pUM), (some (.inl (1, 1, [])), [], (pUM.set 14 (.inl (1, 1, [(2028, 0, 0)]))))], 1, 12, [])
/-- 212: RecastStageModel.bits (by hand) -/
def kc_212 : ck_K := (yX12_bits, cX12_bits, 3, (some .int), 12, [cF], pPM, [(some (cF), [], pU)], 1, 12, [])
/-- 213: RecastStageModel.lacking -/
def kc_213 : ck_K := (yX12_lacking, cX12_lacking, 3, (some .int), 12, [.inr (.inl 12), .inl (-1, 8, []), .inl (0, 5, [])], pPM, [(some (cF), [], pUM)], 1, 12, [])
/-- 214: RecastStageModel.off -/
def kc_214 : ck_K := (yX12_off, cX12_off, 2, (some .int), 12, [cF, cF], pPM, [(some (cF), [], pUM)], 1, 12, [])
/-- 215: RecastStageModel.counts -/
def kc_215 : ck_K := (yX12_counts, cX12_counts, 10, none, 12, [.inr (.inl 12), .inl (0, 6, []), cF], pPM, [(none, [], pUM)], 2, 34, [(14, ([(7, .inl (0, 6, [])), (6, cF), (5, cF), (4, cF), (3, cF), (0, .inr (.inl 12)), (1, .inl (0, 6, [(2, 0, 0)])), (2, .inl (-2147483648, 2147483647, [(4, 0, 0)]))], [], pUM), (63, [(7, -4)])), (73, ([(3, cF), (9, .inl (-1, 7, [])), (8, .inl (-1, 8, [])), (7, .inl (0, 5, [])), (6, cF), (5, cF), (4, cF), (0, .inr (.inl 12)), (1, .inl (1, 6, [(2, 0, 0)])), (2, .inl (-2147483648, 2147483647, [(4, 0, 0)]))], [], pUM), (62, [(7, -4)])), (110, ([(4, cF), (3, cF), (8, .inl (-1, 8, [])), (7, .inl (0, 5, [])), (6, cF), (5, cF), (0, .inr (.inl 12)), (1, .inl (1, 6, [(2, 0, 0)])), (2, .inl (-2147483648, 2147483647, [(4, 0, 0)]))], [], pUM), (61, [(7, -4)])), (146, ([(6, cF), (5, cF), (4, cF), (3, cF), (0, .inr (.inl 12)), (1, .inl (0, 6, [(2, 0, 0)])), (2, .inl (-2147483648, 2147483647, [(4, 0, 0)]))], [], pUM), (36, [])), (175, ([(5, cF), (4, cF), (3, cF), (0, .inr (.inl 12)), (1, .inl (0, 6, [(2, 0, 0)])), (2, .inl (-2147483648, 2147483647, [(4, 0, 0)]))], [], pUM), (35, [])), (204, ([(5, cF), (3, cF), (0, .inr (.inl 12)), (1, .inl (0, 6, [(2, 0, 0)])), (2, .inl (-2147483648, 2147483647, [(4, 0, 0)]))], [], pUM), (34, [])), (227, ([(5, cF), (3, cF), (0, .inr (.inl 12)), (1, .inl (0, 6, [(2, 0, 0)])), (2, .inl (-2147483648, 2147483647, [(4, 0, 0)]))], [], pUM), (33, [])), (247, ([(3, cF), (0, .inr (.inl 12)), (1, .inl (0, 6, [(2, 0, 0)]))], [], pUM), (32, [])), (262, ([(3, cF), (0, .inr (.inl 12)), (1, .inl (0, 6, [(2, 0, 0)]))], [], pUM), (31, [])), (270, ([(7, .inl (0, 6, [])), (0, .inr (.inl 12)), (1, .inl (0, 6, [(2, 0, 0)]))], [], pUM), (28, [(7, -2)])), (294, ([(7, .inl (0, 6, [])), (0, .inr (.inl 12)), (1, .inl (0, 6, [(2, 0, 0)]))], [], pUM), (13, [(7, -2)])), (325, ([(0, .inr (.inl 12))], [], pUM), (0, []))])
/-- 216: RecastStageModel.isOver -/
def kc_216 : ck_K := (yX12_isOver, cX12_isOver, 1, (some .boolean), 12, [.inr (.inl 12)], pPM, [(some (.inl (0, 0, [])), [], (pU.set 16 (.inl (0, 5, [(2032, 0, 0), (2034, -6, -1)])))), (some (.inl (1, 1, [])), [], (pU.set 16 (.inl (0, 6, [(2032, 0, 0), (2034, 0, 0)]))))], 1, 12, [])
/-- 217: RecastStageModel.whyAlone -/
def kc_217 : ck_K := (yX12_whyAlone, cX12_whyAlone, 3, (some .int), 12, [.inr (.inl 12), .inl (-1, 8, []), .inl (0, 5, [])], pPM, [(some (.inl (0, 5, [])), [], pUM)], 2, 35, [])
/-- 218: RecastStageModel.canAlone -/
def kc_218 : ck_K := (yX12_canAlone, cX12_canAlone, 3, (some .boolean), 12, [.inr (.inl 12), .inl (-1, 8, []), .inl (0, 5, [])], pPM, [(some (.inl (0, 0, [])), [], pUM), (some (.inl (1, 1, [])), [], pUM)], 3, 57, [])
/-- 219: RecastStageModel.fits -/
def kc_219 : ck_K := (yX12_fits, cX12_fits, 5, (some .boolean), 12, [.inr (.inl 12), .inl (0, 5, []), .inl (0, 1, [])], pPM, [(some (.inl (0, 0, [])), [], pUM), (some (.inl (1, 1, [])), [], pUM)], 4, 79, [(62, ([(4, .inl (0, 5, [])), (3, .inl (-1, 8, [])), (0, .inr (.inl 12)), (1, .inl (0, 5, [(2, 0, 0)]))], [], pUM), (10, [(4, -2)]))])
/-- 220: RecastStageModel.bestAs -/
def kc_220 : ck_K := (yX12_bestAs, cX12_bestAs, 2, (some .int), 12, [.inr (.inl 12), cF], pPM, [(some (cF), [], pUM)], 2, 34, [])
/-- 221: RecastStageModel.find -/
def kc_221 : ck_K := (yX12_find, cX12_find, 4, (some .int), 12, [.inr (.inl 12), .inl (0, 32, []), .inl (0, 6, [])], pPM, [(some (.inl (-1, 5, [])), [], pUM)], 1, 12, [(2, ([(3, .inl (0, 6, [])), (0, .inr (.inl 12)), (1, .inl (0, 32, [(2, 0, 0)])), (2, .inl (0, 6, [(4, 0, 0)]))], [], pUM), (12, [(3, -2)]))])
/-- 222: RecastStageModel.find -/
def kc_222 : ck_K := (yX12_find, cX12_find, 4, (some .int), 12, [.inr (.inl 12), .inl (0, 32, []), .inl (0, 8, [])], pPM, [(some (.inl (-1, 7, [])), [], pUM)], 1, 12, [(2, ([(3, .inl (0, 8, [])), (0, .inr (.inl 12)), (1, .inl (0, 32, [(2, 0, 0)])), (2, .inl (0, 8, [(4, 0, 0)]))], [], pUM), (16, [(3, -2)]))])
/-- 223: RecastStageModel.isName -/
def kc_223 : ck_K := (yX12_isName, cX12_isName, 3, (some .boolean), 12, [.inr (.inl 12)], pPM, [(some (.inl (0, 0, [])), [], pUM), (some (.inl (1, 1, [])), [], (pUM.set 14 (.inl (1, 1, [(2028, 0, 0)]))))], 1, 12, [(16, ([(2, .inl (0, 27, [])), (1, .inl (0, 0, [])), (0, .inr (.inl 12))], [], pUM), (54, [(2, -2)])), (16, ([(2, .inl (0, 27, [])), (1, .inl (1, 1, [])), (0, .inr (.inl 12))], [], (pUM.set 14 (.inl (1, 1, [(2028, 0, 0)])))), (111, [(2, -2)]))])
/-- 224: RecastStageModel.looksAt -/
def kc_224 : ck_K := (yX12_looksAt, cX12_looksAt, 3, (some .boolean), 12, [.inr (.inl 12), .inl (0, 32, []), .inl (0, 6, [])], pPM, [(some (.inl (0, 0, [])), [], ((pUM.set 24 (cF)).set 31 (.inl (1, 4, [])))), (some (.inl (1, 1, [])), [], ((pUM.set 14 (.inl (1, 1, [(2028, 0, 0)]))).set 24 (.inl (0, 5, []))))], 2, 35, [])
/-- 225: RecastStageModel.looksAt -/
def kc_225 : ck_K := (yX12_looksAt, cX12_looksAt, 3, (some .boolean), 12, [.inr (.inl 12), .inl (0, 32, []), .inl (0, 8, [])], pPM, [(some (.inl (0, 0, [])), [], ((pUM.set 24 (cF)).set 31 (.inl (1, 4, [])))), (some (.inl (1, 1, [])), [], ((pUM.set 14 (.inl (1, 1, [(2028, 0, 0)]))).set 24 (.inl (0, 7, []))))], 2, 35, [])
/-- 226: RecastStageModel.castAs -/
def kc_226 : ck_K := (yX12_castAs, cX12_castAs, 3, (some .int), 12, [.inr (.inl 12), cF], pPM, [(some (.inl (-1, 7, [])), [], pUM)], 1, 12, [(2, ([(2, .inl (0, 8, [])), (0, .inr (.inl 12)), (1, .inl (-2147483648, 2147483647, [(2, 0, 0)]))], [], pUM), (16, [(2, -2)]))])
/-- 227: RecastStageModel.canRise -/
def kc_227 : ck_K := (yX12_canRise, cX12_canRise, 3, (some .boolean), 12, [.inr (.inl 12)], pPM, [(some (.inl (0, 0, [])), [], pUM), (some (.inl (1, 1, [])), [], (pU.set 16 (.inl (0, 5, [(2032, 0, 0), (2034, -6, -1)]))))], 2, 35, [(15, ([(2, .inl (0, 6, [])), (1, .inl (0, 0, [])), (0, .inr (.inl 12))], [], pUM), (0, [])), (15, ([(2, .inl (0, 6, [])), (1, .inl (1, 1, [])), (0, .inr (.inl 12))], [], (pU.set 16 (.inl (0, 5, [(2032, 0, 0), (2034, -6, -1)])))), (13, [(2, -2)]))])
/-- 228: RecastStageModel.isMan -/
def kc_228 : ck_K := (yX12_isMan, cX12_isMan, 2, (some .boolean), 12, [.inr (.inl 12), cF], pPM, [(some (.inl (0, 0, [])), [], pUM), (some (.inl (1, 1, [])), [(1, 0, 7)], pUM)], 2, 34, [])
/-- 229: RecastStageModel.canWhisper -/
def kc_229 : ck_K := (yX12_canWhisper, cX12_canWhisper, 3, (some .boolean), 12, [.inr (.inl 12), cF, cF], pPM, [(some (.inl (0, 0, [])), [], pUM), (some (.inl (1, 1, [])), [(1, 0, 7), (2, 0, 5)], (pU.set 16 (.inl (0, 5, [(2032, 0, 0), (2034, -6, -1)]))))], 3, 55, [])
/-- 230: RecastStageModel.drops -/
def kc_230 : ck_K := (yX12_drops, cX12_drops, 2, none, 12, [.inr (.inl 12)], pPM, [(none, [], pUM)], 1, 12, [(2, ([(1, .inl (0, 8, [])), (0, .inr (.inl 12))], [], pUM), (16, [(1, -2)]))])
/-- 231: RecastStageModel.castNow -/
def kc_231 : ck_K := (yX12_castNow, cX12_castNow, 3, (some .int), 12, [.inr (.inl 12)], pPM, [(some (cF), [], pUM)], 1, 12, [(4, ([(2, .inl (0, 8, [])), (1, cF), (0, .inr (.inl 12))], [], pUM), (16, [(2, -2)]))])
/-- 232: RecastStageModel.clapsFor -/
def kc_232 : ck_K := (yX12_clapsFor, cX12_clapsFor, 4, (some .int), 12, [.inr (.inl 12), .inl (0, 7, [])], pPM, [(some (.inl (-1, 7, [])), [], pUM)], 2, 34, [(4, ([(3, .inl (0, 6, [])), (2, .inl (-1, 5, [])), (0, .inr (.inl 12)), (1, .inl (0, 7, [(2, 0, 0)]))], [], pUM), (12, [(3, -2)]))])
/-- 233: RecastStageModel.plays -/
def kc_233 : ck_K := (yX12_plays, cX12_plays, 5, none, 12, [.inr (.inl 12), .inl (0, 7, []), .inl (0, 5, [])], pPM, [(none, [], pUM)], 2, 33, [(108, ([(4, .inl (0, 12, [])), (0, .inr (.inl 12)), (1, .inl (0, 7, [(2, 0, 0)])), (2, .inl (0, 5, [(4, 0, 0)]))], [], pUM), (24, [(4, -2)]))])
/-- 234: RecastStageModel.rises (by hand) -/
def kc_234 : ck_K := (yX12_rises, cX12_rises, 3, none, 12, [.inr (.inl 12)], (pP.set 16 (.inl (0, 5, [(2034, -6, -1)]))), [(none, [], (pU.set 16 (.inl (0, 6, [(2032, 1, 1)]))))], 3, 57, [])
/-- 235: RecastStageModel.whispers -/
def kc_235 : ck_K := (yX12_whispers, cX12_whispers, 3, none, 12, [.inr (.inl 12), .inl (0, 7, []), cF], pPM, [(none, [], pUM)], 1, 12, [])
/-- 236: RecastStageModel.whyOf -/
def kc_236 : ck_K := (yX12_whyOf, cX12_whyOf, 5, (some .int), 12, [.inr (.inl 12), .inl (0, 7, []), .inl (0, 5, [])], pPM, [(some (.inl (0, 10, [])), [], pUM)], 3, 57, [(55, ([(4, .inl (0, 8, [])), (0, .inr (.inl 12)), (1, .inl (0, 7, [(2, 0, 0)])), (2, .inl (0, 5, [(4, 0, 0)]))], [], pUM), (16, [(4, -2)]))])
/-- 237: RecastStageModel.sign -/
def kc_237 : ck_K := (yX12_sign, cX12_sign, 2, (some .boolean), 12, [.inr (.inl 12), cF], (pPM.set 14 (.inl (3, 3, []))), [(some (.inl (0, 0, [])), [], ((pUM.set 14 (.inl (3, 3, [(2028, 0, 0)]))).set 31 (.inl (1, 4, [])))), (some (.inl (1, 1, [])), [], ((pUM.set 13 (.inl (0, 940, [(2026, 0, 940)]))).set 14 (.inl (0, 4, []))))], 3, 55, [])
/-- 238: RecastStageModel.sign -/
def kc_238 : ck_K := (yX12_sign, cX12_sign, 2, (some .boolean), 12, [.inr (.inl 12), cF], (pPM.set 14 (.inl (0, 2, []))), [(some (.inl (0, 0, [])), [], ((pUM.set 14 (.inl (0, 2, [(2028, 0, 0)]))).set 31 (.inl (1, 4, []))))], 2, 33, [])
/-- 239: RecastStageModel.sign -/
def kc_239 : ck_K := (yX12_sign, cX12_sign, 2, (some .boolean), 12, [.inr (.inl 12), cF], (pPM.set 14 (.inl (4, 4, []))), [(some (.inl (0, 0, [])), [], ((pUM.set 14 (.inl (4, 4, [(2028, 0, 0)]))).set 31 (.inl (1, 4, []))))], 2, 33, [])
/-- 240: RecastStageModel.sign -/
def kc_240 : ck_K := (yX12_sign, cX12_sign, 2, (some .boolean), 12, [.inr (.inl 12), cF], pPM, [(some (.inl (0, 0, [])), [], (pUM.set 31 (.inl (1, 4, [])))), (some (.inl (1, 1, [])), [], ((pUM.set 13 (.inl (0, 940, [(2026, 0, 940)]))).set 14 (.inl (0, 4, []))))], 3, 55, [])
/-- 241: RecastStageModel.taken -/
def kc_241 : ck_K := (yX12_taken, cX12_taken, 2, none, 12, [.inr (.inl 12), .inl (0, 900, [])], pPM, [(none, [], (((pUM.set 11 (.inl (0, 0, []))).set 12 (.inl (0, 940, [(2022, 0, 0)]))).set 13 (.inl (0, 0, []))))], 1, 12, [])
/-- 242: RecastStageModel.tries (by hand) -/
def kc_242 : ck_K := (yX12_tries, cX12_tries, 2, none, 12, [.inr (.inl 12)], pPM, [(none, [], (pU.set 18 (.inl (0, 6, [(2032, 0, 0)]))))], 1, 12, [])
/-- 243: RecastStageModel.booked -/
def kc_243 : ck_K := (yX12_booked, cX12_booked, 2, (some .int), 12, [.inr (.inl 12), cF], pPM, [(some (cF), [], pUM)], 2, 34, [])
/-- 244: RecastStageModel.isPart -/
def kc_244 : ck_K := (yX12_isPart, cX12_isPart, 2, (some .boolean), 12, [.inr (.inl 12), cF], pPM, [(some (.inl (0, 0, [])), [], pUM), (some (.inl (1, 1, [])), [(1, 0, 5)], pUM)], 2, 34, [])
/-- 245: RecastStageModel.count -/
def kc_245 : ck_K := (yX12_count, cX12_count, 2, (some .int), 12, [.inr (.inl 12), cF], pPM, [(some (cF), [], pUM)], 2, 34, [])
/-- 246: RecastStageModel.draw -/
def kc_246 : ck_K := (yX12_draw, cX12_draw, 2, (some .int), 12, [.inr (.inl 12), .inl (6, 6, [])], pPM, [(some (cF), [], pUM)], 1, 12, [])
/-- 247: RecastStageModel.end -/
def kc_247 : ck_K := (yX12_end, cX12_end, 2, (some .boolean), 12, [.inr (.inl 12), cF], pPM, [(some (.inl (0, 0, [])), [], pUM), (some (.inl (1, 1, [])), [(1, 0, 940)], (pUM.set 11 (.inl (0, 940, []))))], 1, 12, [])
/-- 248: RecastStageModel.fault -/
def kc_248 : ck_K := (yX12_fault, cX12_fault, 1, (some .int), 12, [.inr (.inl 12)], pPM, [(some (.inl (0, 4, [])), [], pUM)], 1, 12, [])
/-- 249: RecastStageModel.valueOf -/
def kc_249 : ck_K := (yX12_valueOf, cX12_valueOf, 3, (some .int), 12, [.inr (.inl 12), .inl (0, 7, []), cF], pPM, [(some (cF), [], pUM)], 1, 12, [])
/-- 250: RecastStageModel.favourite -/
def kc_250 : ck_K := (yX12_favourite, cX12_favourite, 4, (some .int), 12, [.inr (.inl 12), cF], pPM, [(some (.inl (-1, 7, [])), [], pUM)], 2, 34, [(20, ([(3, .inl (0, 8, [])), (2, .inl (-1, 7, [])), (0, .inr (.inl 12)), (1, .inl (0, 2, [(2, 0, 0)]))], [], pUM), (16, [(3, -2)]))])
/-- 251: RecastStageModel.fresh -/
def kc_251 : ck_K := (yX12_fresh, cX12_fresh, 2, (some .boolean), 12, [.inr (.inl 12), .inl (20, 39, [])], pPM, [(some (.inl (0, 0, [])), [], ((pUM.set 14 (.inl (1, 1, [(2028, 0, 0)]))).set 31 (.inl (1, 4, [])))), (some (.inl (0, 0, [])), [], (pUM.set 31 (.inl (1, 4, [])))), (some (.inl (1, 1, [])), [], (((pUM.set 12 (.inl (1, 940, [(2024, 0, 0)]))).set 13 (.inl (0, 940, [(2026, 0, 940)]))).set 14 (.inl (4, 4, [])))), (some (.inl (1, 1, [])), [], ((pUM.set 13 (.inl (0, 940, [(2026, 0, 940)]))).set 14 (.inl (0, 0, [])))), (some (.inl (1, 1, [])), [], (((pUM.set 12 (.inl (1, 940, [(2024, 0, 0)]))).set 13 (.inl (1, 940, [(2026, 1, 940)]))).set 14 (.inl (3, 3, [])))), (some (.inl (1, 1, [])), [], (((pUM.set 12 (.inl (1, 940, [(2024, 0, 0)]))).set 13 (.inl (0, 940, [(2026, 0, 940)]))).set 14 (.inl (1, 2, []))))], 3, 55, [])
/-- 252: RecastStageModel.suspectsBy -/
def kc_252 : ck_K := (yX12_suspectsBy, cX12_suspectsBy, 4, (some .int), 12, [.inr (.inl 12), cF], pPM, [(some (.inl (0, 63, [])), [], pUM)], 2, 33, [(13, ([(3, .inl (0, 6, [])), (2, .inl (0, 63, [])), (0, .inr (.inl 12)), (1, .inl (-2147483648, 2147483647, [(2, 0, 0)]))], [], pUM), (12, [(3, -2)]))])
/-- 253: RecastStageModel.isSure -/
def kc_253 : ck_K := (yX12_isSure, cX12_isSure, 2, (some .boolean), 12, [.inr (.inl 12), cF], pPM, [(some (.inl (0, 0, [])), [], pUM), (some (.inl (1, 1, [])), [], pUM)], 3, 56, [])
/-- 254: RecastStageModel.isLeaf -/
def kc_254 : ck_K := (yX12_isLeaf, cX12_isLeaf, 6, (some .boolean), 12, [.inr (.inl 12), .inl (0, 7, []), cF, cF, cF], pPM, [(some (.inl (0, 0, [])), [], pUM), (some (.inl (1, 1, [])), [], pUM)], 4, 77, [])
/-- 255: RecastStageModel.lacks -/
def kc_255 : ck_K := (yX12_lacks, cX12_lacks, 7, (some .int), 12, [.inr (.inl 12)], pPM, [(some (.inl (0, 63, [])), [], pUM)], 4, 79, [(31, ([(3, .inl (1, 64, [])), (2, cF), (1, .inl (0, 63, [])), (0, .inr (.inl 12))], [], (pU.set 16 (.inl (0, 5, [(2032, 0, 0), (2034, -6, -1)])))), (11113, [(3, -171)])), (69, ([(5, .inl (0, 8, [])), (4, cF), (3, .inl (1, 63, [])), (2, cF), (1, .inl (0, 63, [])), (0, .inr (.inl 12))], [], (pU.set 16 (.inl (0, 5, [(2032, 0, 0), (2034, -6, -1)])))), (11095, [(3, -171), (5, -17)])), (83, ([(6, .inl (0, 6, [])), (5, .inl (0, 7, [])), (4, cF), (3, .inl (1, 63, [])), (2, cF), (1, .inl (0, 63, [])), (0, .inr (.inl 12))], [], (pU.set 16 (.inl (0, 5, [(2032, 0, 0), (2034, -6, -1)])))), (11092, [(3, -171), (5, -17), (6, -2)]))])
/-- 256: RecastStageModel.leafOf -/
def kc_256 : ck_K := (yX12_leafOf, cX12_leafOf, 1, (some .int), 12, [.inr (.inl 12)], pPM, [(some (.inl (-1, 7, [])), [], pUM)], 2, 34, [])
/-- 257: RecastStageModel.takes -/
def kc_257 : ck_K := (yX12_takes, cX12_takes, 3, (some .boolean), 12, [.inr (.inl 12), cF, cF], pPM, [(some (.inl (0, 0, [])), [], ((pUM.set 14 (.inl (2, 2, [(2028, 0, 0)]))).set 31 (.inl (1, 4, [])))), (some (.inl (0, 0, [])), [], (pUM.set 31 (.inl (1, 4, [])))), (some (.inl (1, 1, [])), [], ((((pUM.set 12 (.inl (1, 940, [(2024, 0, 0)]))).set 13 (.inl (0, 940, [(2026, 0, 940)]))).set 14 (.inl (4, 4, []))).set 24 (cF))), (some (.inl (1, 1, [])), [], (((pUM.set 13 (.inl (0, 940, [(2026, 0, 940)]))).set 14 (.inl (0, 0, []))).set 24 (cF))), (some (.inl (1, 1, [])), [], ((((pUM.set 12 (.inl (1, 940, [(2024, 0, 0)]))).set 13 (.inl (1, 940, [(2026, 1, 940)]))).set 14 (.inl (3, 3, []))).set 24 (cF))), (some (.inl (1, 1, [])), [], ((((pUM.set 12 (.inl (1, 940, [(2024, 0, 0)]))).set 13 (.inl (0, 940, [(2026, 0, 940)]))).set 14 (.inl (1, 2, []))).set 24 (cF)))], 3, 55, [])
/-- 258: RecastStageModel.takesName -/
def kc_258 : ck_K := (yX12_takesName, cX12_takesName, 3, (some .boolean), 12, [.inr (.inl 12), .inl (0, 32, []), .inl (0, 6, [])], pPM, [(some (.inl (0, 0, [])), [], ((pUM.set 24 (cF)).set 31 (.inl (1, 4, [])))), (some (.inl (1, 1, [])), [], ((((pUM.set 12 (.inl (1, 940, [(2024, 0, 0)]))).set 13 (.inl (0, 940, [(2026, 0, 940)]))).set 14 (.inl (4, 4, []))).set 24 (.inl (0, 5, [])))), (some (.inl (1, 1, [])), [], (((pUM.set 13 (.inl (0, 940, [(2026, 0, 940)]))).set 14 (.inl (0, 0, []))).set 24 (.inl (0, 5, [])))), (some (.inl (1, 1, [])), [], ((((pUM.set 12 (.inl (1, 940, [(2024, 0, 0)]))).set 13 (.inl (1, 940, [(2026, 1, 940)]))).set 14 (.inl (3, 3, []))).set 24 (.inl (0, 5, [])))), (some (.inl (1, 1, [])), [], ((((pUM.set 12 (.inl (1, 940, [(2024, 0, 0)]))).set 13 (.inl (0, 940, [(2026, 0, 940)]))).set 14 (.inl (1, 2, []))).set 24 (.inl (0, 5, []))))], 3, 57, [])
/-- 259: RecastStageModel.takesName -/
def kc_259 : ck_K := (yX12_takesName, cX12_takesName, 3, (some .boolean), 12, [.inr (.inl 12), .inl (0, 32, []), .inl (0, 8, [])], pPM, [(some (.inl (0, 0, [])), [], ((pUM.set 24 (cF)).set 31 (.inl (1, 4, [])))), (some (.inl (1, 1, [])), [], ((((pUM.set 12 (.inl (1, 940, [(2024, 0, 0)]))).set 13 (.inl (0, 940, [(2026, 0, 940)]))).set 14 (.inl (4, 4, []))).set 24 (.inl (0, 7, [])))), (some (.inl (1, 1, [])), [], (((pUM.set 13 (.inl (0, 940, [(2026, 0, 940)]))).set 14 (.inl (0, 0, []))).set 24 (.inl (0, 7, [])))), (some (.inl (1, 1, [])), [], ((((pUM.set 12 (.inl (1, 940, [(2024, 0, 0)]))).set 13 (.inl (1, 940, [(2026, 1, 940)]))).set 14 (.inl (3, 3, []))).set 24 (.inl (0, 7, [])))), (some (.inl (1, 1, [])), [], ((((pUM.set 12 (.inl (1, 940, [(2024, 0, 0)]))).set 13 (.inl (0, 940, [(2026, 0, 940)]))).set 14 (.inl (1, 2, []))).set 24 (.inl (0, 7, []))))], 3, 57, [])
/-- 260: RecastStageModel.throwsIf -/
def kc_260 : ck_K := (yX12_throwsIf, cX12_throwsIf, 2, (some .boolean), 12, [.inr (.inl 12), .inl (0, 1, [])], pPM, [(some (.inl (0, 0, [])), [(1, 0, 0)], pUM), (some (.inl (1, 1, [])), [(1, 1, 1)], pUM)], 1, 12, [])
/-- 261: RecastStageModel.man -/
def kc_261 : ck_K := (yX12_man, cX12_man, 3, (some .int), 12, [.inr (.inl 12), cF, cF], pPM, [(some (cF), [], pUM)], 3, 55, [])
/-- 262: RecastStageModel.now -/
def kc_262 : ck_K := (yX12_now, cX12_now, 2, (some .int), 12, [.inr (.inl 12), cF], pPM, [(some (cF), [], pUM)], 2, 34, [])
/-- 263: RecastStageModel.part -/
def kc_263 : ck_K := (yX12_part, cX12_part, 5, (some .int), 12, [.inr (.inl 12), cF, cF], pPM, [(some (cF), [], pUM)], 3, 55, [(20, ([(4, .inl (0, 6, [])), (3, cF), (0, .inr (.inl 12)), (1, .inl (0, 5, [(2, 0, 0)])), (2, .inl (-2147483648, 2147483647, [(4, 0, 0)]))], [], pUM), (12, [(4, -2)]))])
/-- 264: RecastStageModel.price -/
def kc_264 : ck_K := (yX12_price, cX12_price, 2, (some .int), 12, [.inr (.inl 12), cF], pPM, [(some (cF), [], pUM)], 2, 34, [])
/-- 265: RecastStageModel.wantOf -/
def kc_265 : ck_K := (yX12_wantOf, cX12_wantOf, 5, (some .int), 12, [.inr (.inl 12), .inl (0, 7, [])], pPM, [(some (.inl (-1, 5, [])), [], pUM)], 4, 79, [(4, ([(3, .inl (0, 6, [])), (2, .inl (-1, 5, [])), (0, .inr (.inl 12)), (1, .inl (0, 7, [(2, 0, 0)]))], [], pUM), (12, [(3, -2)]))])
/-- 266: RecastStageModel.prices (by hand) -/
def kc_266 : ck_K := (yX12_prices, cX12_prices, 4, (some .int), 12, [.inr (.inl 12)], pPM, [(some (cF), [], pU)], 5, 103, [])
/-- 267: RecastStageModel.scene -/
def kc_267 : ck_K := (yX12_scene, cX12_scene, 3, (some .int), 12, [.inr (.inl 12), cF, cF], pPM, [(some (cF), [], pUM)], 2, 34, [])
/-- 268: RecastStageModel.sure -/
def kc_268 : ck_K := (yX12_sure, cX12_sure, 3, (some .int), 12, [.inr (.inl 12)], pPM, [(some (cF), [], pUM)], 4, 77, [(9, ([(2, .inl (0, 8, [])), (1, cF), (0, .inr (.inl 12))], [], pUM), (16, [(2, -2)]))])
/-- 269: RecastStageModel.suspects -/
def kc_269 : ck_K := (yX12_suspects, cX12_suspects, 2, (some .int), 12, [.inr (.inl 12), cF], pPM, [(some (.inl (-1, 63, [])), [], pUM)], 3, 56, [])
/-- 270: RecastStageModel.tells -/
def kc_270 : ck_K := (yX12_tells, cX12_tells, 4, (some .int), 12, [.inr (.inl 12), cF], pPM, [(some (.inl (-2, 5, [])), [], pUM)], 4, 77, [(46, ([(3, .inl (0, 6, [(2032, 0, 6), (2034, -6, 0)])), (2, cF), (0, .inr (.inl 12))], [], pUM), (12, [(3, -2)]))])
/-- 271: RecastStageModel.wants -/
def kc_271 : ck_K := (yX12_wants, cX12_wants, 2, (some .int), 12, [.inr (.inl 12), cF], pPM, [(some (.inl (-1, 5, [])), [], pUM)], 2, 34, [])
/-- 272: RecastStageModel.why -/
def kc_272 : ck_K := (yX12_why, cX12_why, 3, (some .int), 12, [.inr (.inl 12), cF, cF], pPM, [(some (.inl (-1, 10, [])), [], pUM)], 4, 81, [])
/-- 273: java/util/Arrays.fill -/
def kc_273 : ck_K := (yJ7_fill_53178, cJ7_fill_53178, 4, none, 15, [.inr (.inl 57), cF], pP, [(none, [], pU)], 1, 12, [(5, ([(3, .inl (6, 6, [])), (2, .inl (0, 6, [])), (0, .inr (.inl 57)), (1, .inl (-2147483648, 2147483647, [(2, 0, 0)]))], [], pU), (12, [(2, -2)]))])
/-- 274: java/util/Arrays.fill -/
def kc_274 : ck_K := (yJ7_fill_53178, cJ7_fill_53178, 4, none, 15, [.inr (.inl 58), cF], pP, [(none, [], pU)], 1, 12, [(5, ([(3, .inl (6, 6, [])), (2, .inl (0, 6, [])), (0, .inr (.inl 58)), (1, .inl (-2147483648, 2147483647, [(2, 0, 0)]))], [], pU), (12, [(2, -2)]))])
/-- 275: java/util/Arrays.fill -/
def kc_275 : ck_K := (yJ7_fill_53178, cJ7_fill_53178, 4, none, 15, [.inr (.inl 61), cF], pP, [(none, [], pU)], 1, 12, [(5, ([(3, .inl (8, 8, [])), (2, .inl (0, 8, [])), (0, .inr (.inl 61)), (1, .inl (-2147483648, 2147483647, [(2, 0, 0)]))], [], pU), (16, [(2, -2)]))])
/-- 276: java/util/Arrays.fill -/
def kc_276 : ck_K := (yJ7_fill_53178, cJ7_fill_53178, 4, none, 15, [.inr (.inl 62), cF], pP, [(none, [], pU)], 1, 12, [(5, ([(3, .inl (8, 8, [])), (2, .inl (0, 8, [])), (0, .inr (.inl 62)), (1, .inl (-2147483648, 2147483647, [(2, 0, 0)]))], [], pU), (16, [(2, -2)]))])
/-- 277: java/util/Arrays.fill -/
def kc_277 : ck_K := (yJ7_fill_53178, cJ7_fill_53178, 4, none, 15, [.inr (.inl 63), cF], pP, [(none, [], pU)], 1, 12, [(5, ([(3, .inl (48, 48, [])), (2, .inl (0, 48, [])), (0, .inr (.inl 63)), (1, .inl (-2147483648, 2147483647, [(2, 0, 0)]))], [], pU), (96, [(2, -2)]))])
/-- 278: java/util/Arrays.fill -/
def kc_278 : ck_K := (yJ7_fill_53178, cJ7_fill_53178, 4, none, 15, [.inr (.inl 65), cF], pP, [(none, [], pU)], 1, 12, [(5, ([(3, .inl (12, 12, [])), (2, .inl (0, 12, [])), (0, .inr (.inl 65)), (1, .inl (-2147483648, 2147483647, [(2, 0, 0)]))], [], pU), (24, [(2, -2)]))])
/-- 279: java/util/Arrays.fill -/
def kc_279 : ck_K := (yJ7_fill_53178, cJ7_fill_53178, 4, none, 15, [.inr (.inl 66), cF], pP, [(none, [], pU)], 1, 12, [(5, ([(3, .inl (12, 12, [])), (2, .inl (0, 12, [])), (0, .inr (.inl 66)), (1, .inl (-2147483648, 2147483647, [(2, 0, 0)]))], [], pU), (24, [(2, -2)]))])
/-- 280: java/util/Arrays.fill -/
def kc_280 : ck_K := (yJ7_fill_53178, cJ7_fill_53178, 4, none, 15, [.inr (.inl 26), .inl (-1, -1, [])], pP, [(none, [], pU)], 1, 12, [(5, ([(3, .inl (6, 6, [])), (2, .inl (0, 6, [])), (0, .inr (.inl 26)), (1, .inl (-1, -1, [(2, 0, 0)]))], [], pU), (12, [(2, -2)]))])
/-- 281: java/util/Arrays.fill -/
def kc_281 : ck_K := (yJ7_fill_53178, cJ7_fill_53178, 4, none, 15, [.inr (.inl 20), cF], pP, [(none, [], pU)], 1, 12, [(5, ([(3, .inl (6, 6, [])), (2, .inl (0, 6, [])), (0, .inr (.inl 20)), (1, .inl (-2147483648, 2147483647, [(2, 0, 0)]))], [], pU), (12, [(2, -2)]))])
/-- 282: java/util/Arrays.fill -/
def kc_282 : ck_K := (yJ7_fill_53178, cJ7_fill_53178, 4, none, 15, [.inr (.inl 21), cF], pP, [(none, [], pU)], 1, 12, [(5, ([(3, .inl (8, 8, [])), (2, .inl (0, 8, [])), (0, .inr (.inl 21)), (1, .inl (-2147483648, 2147483647, [(2, 0, 0)]))], [], pU), (16, [(2, -2)]))])
/-- 283: java/util/Arrays.fill -/
def kc_283 : ck_K := (yJ7_fill_53178, cJ7_fill_53178, 4, none, 15, [.inr (.inl 22), cF], pP, [(none, [], pU)], 1, 12, [(5, ([(3, .inl (48, 48, [])), (2, .inl (0, 48, [])), (0, .inr (.inl 22)), (1, .inl (-2147483648, 2147483647, [(2, 0, 0)]))], [], pU), (96, [(2, -2)]))])
/-- 284: java/util/Arrays.fill -/
def kc_284 : ck_K := (yJ7_fill_53178, cJ7_fill_53178, 4, none, 15, [.inr (.inl 23), cF], pP, [(none, [], pU)], 1, 12, [(5, ([(3, .inl (12, 12, [])), (2, .inl (0, 12, [])), (0, .inr (.inl 23)), (1, .inl (-2147483648, 2147483647, [(2, 0, 0)]))], [], pU), (24, [(2, -2)]))])
/-- 285: RecastStage$Casting.castInto -/
def kc_285 : ck_K := (yX1_castInto, cX1_castInto, 3, none, 1, [.inr (.inl 1), .inr (.inl 26)], pP, [(none, [], pU)], 2, 35, [(7, ([(2, .inl (0, 6, [])), (0, .inr (.inl 1)), (1, .inr (.inl 26))], [], pU), (12, [(2, -2)]))])
/-- 286: RecastStage$Evening.castUnlessWhy -/
def kc_286 : ck_K := (yX2_castUnlessWhy, cX2_castUnlessWhy, 5, (some .int), 2, [.inr (.inl 2), .inr (.inl 6), .inl (0, 7, []), .inl (0, 5, [])], pP, [(some (.inl (0, 10, [])), [], pU)], 5, 106, [])
/-- 287: RecastStage$Evening.sendOff -/
def kc_287 : ck_K := (yX2_sendOff, cX2_sendOff, 1, none, 2, [.inr (.inl 2)], pP, [(none, [], pU)], 2, 35, [])
/-- 288: RecastStage$Evening.endAct (by hand) -/
def kc_288 : ck_K := (yX2_endAct, cX2_endAct, 4, none, 2, [.inr (.inl 2), .inr (.inl 6)], pP, [(none, [], pU)], 3, 59, [])
/-- 289: RecastStage$Evening.begin -/
def kc_289 : ck_K := (yX2_begin, cX2_begin, 1, none, 2, [.inr (.inl 2)], pP, [(none, [], pU)], 2, 35, [])
/-- 290: RecastStage$Evening.copyFrom -/
def kc_290 : ck_K := (yX2_copyFrom, cX2_copyFrom, 2, none, 2, [.inr (.inl 2), .inr (.inl 2)], pP, [(none, [], pU)], 1, 26, [])
/-- 291: RecastStage$History.keep -/
def kc_291 : ck_K := (yX3_keep, cX3_keep, 2, none, 3, [.inr (.inl 3), .inr (.inl 2)], pP, [(none, [], (pU.set 8 (.inl (1, 8, [(2016, 0, 1)]))))], 2, 47, [])
/-- 292: RecastStage$History.takeBack -/
def kc_292 : ck_K := (yX3_takeBack, cX3_takeBack, 2, (some .boolean), 3, [.inr (.inl 3), .inr (.inl 2)], pP, [(some (.inl (0, 0, [])), [], (pU.set 8 (.inl (0, 0, [(2016, 0, 0)])))), (some (.inl (1, 1, [])), [], (pU.set 8 (.inl (0, 7, [(2016, -1, -1)]))))], 2, 47, [])
/-- 293: RecastStage$Market.trade -/
def kc_293 : ck_K := (yX5_trade, cX5_trade, 7, (some .int), 5, [.inr (.inl 5), .inr (.inl 6), .inr (.inl 2), .inr (.inl 1)], pP, [(some (.inl (-1, 99, [])), [], (pU.set 7 (.inl (0, 6, []))))], 5, 110, [(39, ([(5, .inl (0, 1, [])), (4, .inl (0, 99, [])), (0, .inr (.inl 5)), (1, .inr (.inl 6)), (3, .inr (.inl 1))], [], (pU.set 7 (.inl (0, 6, [])))), (2079, [(4, -21)])), (57, ([(6, .inl (0, 8, [])), (4, .inl (1, 99, [])), (0, .inr (.inl 5)), (1, .inr (.inl 6)), (3, .inr (.inl 1))], [], (pU.set 7 (.inl (0, 6, [])))), (2096, [(4, -21), (6, -2)]))])
/-- 294: RecastStage$Play.clear -/
def kc_294 : ck_K := (yX6_clear, cX6_clear, 1, none, 6, [.inr (.inl 13)], pP, [(none, [], (((((pU.set 2 (.inl (0, 0, []))).set 3 (.inl (0, 0, []))).set 4 (.inl (0, 0, []))).set 5 (.inl (0, 0, []))).set 6 (.inl (0, 0, []))))], 2, 35, [])
/-- 295: RecastStage$PlayReader.read -/
def kc_295 : ck_K := (yX7_read, cX7_read, 4, (some .int), 7, [.inr (.inl 7), .inr (.inl 8)], pP, [(some (cF), [], (((((((pU.set 1 (.inl (0, 940, [(2002, 0, 940)]))).set 2 (.inl (0, 6, []))).set 3 (.inl (0, 6, []))).set 4 (.inl (0, 8, []))).set 5 (.inl (0, 6, []))).set 6 (.inl (0, 12, []))).set 25 (.inl (0, 4, []))))], 7, 147, [(11, ([(3, .inl (0, 901, [])), (2, cF), (0, .inr (.inl 7)), (1, .inr (.inl 8))], [], (((((((pU.set 1 (.inl (0, 940, [(2002, 0, 940)]))).set 2 (.inl (0, 6, []))).set 3 (.inl (0, 6, []))).set 4 (.inl (0, 8, []))).set 5 (.inl (0, 6, []))).set 6 (.inl (0, 12, []))).set 25 (.inl (0, 4, [])))), (1802, [(3, -2)]))])
/-- 296: RecastStage.best -/
def kc_296 : ck_K := (yX11_best, cX11_best, 1, (some .int), 11, [.inr (.inl 11)], pP, [(some (cF), [], (pU.set 7 (.inl (0, 6, []))))], 11, 252, [])
/-- 297: RecastStage.cast -/
def kc_297 : ck_K := (yX11_cast, cX11_cast, 4, (some .int), 11, [.inr (.inl 11), cF, cF], pP, [(some (.inl (-1, 10, [])), [], (pU.set 8 (.inl (0, 8, [(2016, 0, 1)]))))], 5, 106, [])
/-- 298: RecastStage.curtain -/
def kc_298 : ck_K := (yX11_curtain, cX11_curtain, 1, (some .int), 11, [.inr (.inl 11)], pP, [(some (cF), [], (pU.set 8 (.inl (0, 8, [(2016, 0, 1)]))))], 4, 82, [])
/-- 299: RecastStage.playBest -/
def kc_299 : ck_K := (yX11_playBest, cX11_playBest, 2, (some .boolean), 11, [.inr (.inl 11), .inr (.inl 2)], pP, [(some (.inl (0, 0, [])), [], (pU.set 7 (.inl (0, 6, [])))), (some (.inl (1, 1, [])), [], (pU.set 7 (.inl (0, 6, []))))], 11, 252, [])
/-- 300: RecastStage.playDrawn -/
def kc_300 : ck_K := (yX11_playDrawn, cX11_playDrawn, 6, none, 11, [.inr (.inl 11), .inr (.inl 2), cF], pP, [(none, [], (pU.set 7 (.inl (0, 6, []))))], 12, 273, [(12, ([(4, cF), (3, cF), (0, .inr (.inl 11)), (1, .inr (.inl 2))], [], (pU.set 7 (.inl (0, 6, [])))), (45097156606, [(4, -21)])), (27, ([(5, .inl (0, 8, [])), (4, .inl (-2147483648, 5, [])), (3, cF), (0, .inr (.inl 11)), (1, .inr (.inl 2))], [], (pU.set 7 (.inl (0, 6, [])))), (45097156603, [(4, -21), (5, -2)]))])
/-- 301: RecastStage.drawn -/
def kc_301 : ck_K := (yX11_drawn, cX11_drawn, 3, (some .int), 11, [.inr (.inl 11), cF], pP, [(some (cF), [], ((pU.set 7 (.inl (0, 6, []))).set 8 (.inl (0, 8, [(2016, 0, 1)]))))], 13, 298, [])
/-- 302: RecastStage.drop -/
def kc_302 : ck_K := (yX11_drop, cX11_drop, 3, (some .int), 11, [.inr (.inl 11), cF], pP, [(some (.inl (-1, 7, [])), [], (pU.set 8 (.inl (0, 8, [(2016, 0, 1)]))))], 3, 68, [])
/-- 303: RecastStage.goOnByBest -/
def kc_303 : ck_K := (yX11_goOnByBest, cX11_goOnByBest, 2, none, 11, [.inr (.inl 11)], pP, [(none, [], (pU.set 7 (.inl (0, 6, []))))], 12, 273, [(13, ([(1, .inl (0, 6, [])), (0, .inr (.inl 11))], [], (pU.set 7 (.inl (0, 6, [])))), (12, [(1, -2)]))])
/-- 304: RecastStage.goesOn -/
def kc_304 : ck_K := (yX11_goesOn, cX11_goesOn, 1, (some .int), 11, [.inr (.inl 11)], pP, [(some (cF), [], (pU.set 7 (.inl (0, 6, []))))], 13, 294, [])
/-- 305: RecastStage.image -/
def kc_305 : ck_K := (yX11_image, cX11_image, 3, (some .boolean), 11, [.inr (.inl 11), .inl (-2147483648, -1, [])], pP, [(some (.inl (0, 0, [])), [], pU)], 1, 12, [])
/-- 306: RecastStage.image -/
def kc_306 : ck_K := (yX11_image, cX11_image, 3, (some .boolean), 11, [.inr (.inl 11), .inl (2, 2147483647, [])], pP, [(some (.inl (0, 0, [])), [], pU)], 1, 12, [])
/-- 307: RecastStage.joy -/
def kc_307 : ck_K := (yX11_joy, cX11_joy, 1, (some .int), 11, [.inr (.inl 11)], pP, [(some (cF), [], (pU.set 7 (.inl (0, 6, []))))], 13, 294, [])
/-- 308: RecastStage.odds -/
def kc_308 : ck_K := (yX11_odds, cX11_odds, 5, (some .int), 11, [.inr (.inl 11), cF, cF], pP, [(some (cF), [], (pU.set 7 (.inl (0, 6, []))))], 13, 298, [(42, ([(4, .inl (0, 40, [])), (3, cF), (0, .inr (.inl 11)), (1, .inl (1, 40, [(2, 0, 0)])), (2, .inl (-2147483648, 2147483647, [(4, 0, 0)]))], [], (pU.set 7 (.inl (0, 6, [])))), (80, [(4, -2)]))])
/-- 309: RecastStage.prices -/
def kc_309 : ck_K := (yX11_prices, cX11_prices, 1, (some .int), 11, [.inr (.inl 11)], pP, [(some (.inl (-1, 99, [])), [], (pU.set 7 (.inl (0, 6, []))))], 6, 136, [])
/-- 310: RecastStage.restore -/
def kc_310 : ck_K := (yX11_restore, cX11_restore, 3, (some .boolean), 11, [.inr (.inl 11), .inl (-2147483648, -1, [])], pP, [(some (.inl (0, 0, [])), [], pU)], 1, 12, [])
/-- 311: RecastStage.restore -/
def kc_311 : ck_K := (yX11_restore, cX11_restore, 3, (some .boolean), 11, [.inr (.inl 11), .inl (2, 2147483647, [])], pP, [(some (.inl (0, 0, [])), [], pU)], 1, 12, [])
/-- 312: RecastStage.undo -/
def kc_312 : ck_K := (yX11_undo, cX11_undo, 1, (some .int), 11, [.inr (.inl 11)], pP, [(some (.inl (-1, 7, [])), [], (pU.set 8 (.inl (0, 7, [(2016, -1, 0)]))))], 3, 68, [])
/-- 313: RecastStage.whisper -/
def kc_313 : ck_K := (yX11_whisper, cX11_whisper, 3, (some .boolean), 11, [.inr (.inl 11), cF, cF], pP, [(some (.inl (0, 0, [])), [], pU), (some (.inl (1, 1, [])), [(1, 0, 7), (2, 0, 5)], (pU.set 8 (.inl (1, 8, [(2016, 0, 1)]))))], 3, 68, [])
/-- 314: RecastStageModel.sets -/
def kc_314 : ck_K := (yX12_sets, cX12_sets, 2, (some .boolean), 12, [.inr (.inl 12), .inl (5, 139, [])], pPM, [(some (.inl (0, 0, [])), [], (pUM.set 31 (.inl (1, 4, [])))), (some (.inl (1, 1, [])), [], (((pUM.set 12 (.inl (1, 940, [(2024, 0, 0)]))).set 13 (.inl (0, 940, [(2026, 0, 940)]))).set 14 (.inl (4, 4, [])))), (some (.inl (1, 1, [])), [], ((pUM.set 13 (.inl (0, 940, [(2026, 0, 940)]))).set 14 (.inl (0, 0, [])))), (some (.inl (1, 1, [])), [], (((pUM.set 12 (.inl (1, 940, [(2024, 0, 0)]))).set 13 (.inl (1, 940, [(2026, 1, 940)]))).set 14 (.inl (3, 3, [])))), (some (.inl (1, 1, [])), [], (((pUM.set 12 (.inl (1, 940, [(2024, 0, 0)]))).set 13 (.inl (0, 940, [(2026, 0, 940)]))).set 14 (.inl (1, 2, []))))], 3, 55, [])
/-- 315: RecastStageModel.pairs -/
def kc_315 : ck_K := (yX12_pairs, cX12_pairs, 4, (some .boolean), 12, [.inr (.inl 12)], pPM, [(some (.inl (0, 0, [])), [], (((((pUM.set 12 (.inl (1, 940, [(2024, 0, 0)]))).set 13 (.inl (0, 940, [(2026, 0, 940)]))).set 14 (.inl (4, 4, []))).set 24 (.inl (0, 5, []))).set 31 (.inl (1, 4, [])))), (some (.inl (0, 0, [])), [], ((((pUM.set 13 (.inl (0, 940, [(2026, 0, 940)]))).set 14 (.inl (0, 2, []))).set 24 (.inl (0, 7, []))).set 31 (.inl (1, 4, [])))), (some (.inl (0, 0, [])), [], (((((pUM.set 12 (.inl (1, 940, [(2024, 0, 0)]))).set 13 (.inl (1, 940, [(2026, 1, 940)]))).set 14 (.inl (3, 3, []))).set 24 (.inl (0, 5, []))).set 31 (.inl (1, 4, [])))), (some (.inl (0, 0, [])), [], ((((pUM.set 13 (.inl (0, 940, [(2026, 0, 940)]))).set 14 (.inl (0, 4, []))).set 24 (cF)).set 31 (.inl (1, 4, [])))), (some (.inl (1, 1, [])), [], ((((pUM.set 12 (.inl (1, 940, [(2024, 0, 0)]))).set 13 (.inl (0, 940, [(2026, 0, 940)]))).set 14 (.inl (4, 4, []))).set 24 (cF))), (some (.inl (1, 1, [])), [], (((pUM.set 13 (.inl (0, 940, [(2026, 0, 940)]))).set 14 (.inl (0, 0, []))).set 24 (cF))), (some (.inl (1, 1, [])), [], ((((pUM.set 12 (.inl (1, 940, [(2024, 0, 0)]))).set 13 (.inl (1, 940, [(2026, 1, 940)]))).set 14 (.inl (3, 3, []))).set 24 (cF))), (some (.inl (1, 1, [])), [], ((((pUM.set 12 (.inl (1, 940, [(2024, 0, 0)]))).set 13 (.inl (0, 940, [(2026, 0, 940)]))).set 14 (.inl (1, 2, []))).set 24 (cF)))], 4, 79, [(72, ([(1, .inl (-1, -1, [])), (0, .inr (.inl 12))], [], pUM), (0, [])), (72, ([(1, .inl (0, 0, [])), (0, .inr (.inl 12))], [], (pUM.set 14 (.inl (1, 1, [(2028, 0, 0)])))), (10, [])), (72, ([(1, .inl (1, 1, [])), (0, .inr (.inl 12))], [], (pUM.set 14 (.inl (1, 1, [(2028, 0, 0)])))), (20, [])), (72, ([(1, .inl (2, 2, [])), (0, .inr (.inl 12))], [], (pUM.set 14 (.inl (1, 1, [(2028, 0, 0)])))), (29, [])), (72, ([(1, .inl (3, 3, [])), (0, .inr (.inl 12))], [], (pUM.set 14 (.inl (1, 1, [(2028, 0, 0)])))), (39, [])), (72, ([(1, .inl (4, 4, [])), (0, .inr (.inl 12))], [], (pUM.set 14 (.inl (1, 1, [(2028, 0, 0)])))), (49, [])), (86, ([(1, .inl (0, 0, [])), (0, .inr (.inl 12))], [], ((pUM.set 13 (.inl (0, 940, [(2026, 0, 940)]))).set 14 (.inl (0, 4, [])))), (9, [])), (86, ([(1, .inl (1, 1, [])), (0, .inr (.inl 12))], [], ((pUM.set 13 (.inl (0, 940, [(2026, 0, 940)]))).set 14 (.inl (0, 4, [])))), (19, [])), (86, ([(1, .inl (2, 2, [])), (0, .inr (.inl 12))], [], ((pUM.set 13 (.inl (0, 940, [(2026, 0, 940)]))).set 14 (.inl (0, 4, [])))), (28, [])), (86, ([(1, .inl (3, 3, [])), (0, .inr (.inl 12))], [], ((pUM.set 13 (.inl (0, 940, [(2026, 0, 940)]))).set 14 (.inl (0, 4, [])))), (38, [])), (86, ([(1, .inl (4, 4, [])), (0, .inr (.inl 12))], [], ((pUM.set 13 (.inl (0, 940, [(2026, 0, 940)]))).set 14 (.inl (0, 4, [])))), (48, [])), (144, ([(2, .inl (0, 5, [])), (1, .inl (0, 0, [])), (0, .inr (.inl 12))], [], (((pUM.set 13 (.inl (0, 940, [(2026, 0, 940)]))).set 14 (.inl (0, 4, []))).set 24 (.inl (0, 5, [])))), (8, [])), (144, ([(2, .inl (0, 5, [])), (1, .inl (1, 1, [])), (0, .inr (.inl 12))], [], (((pUM.set 13 (.inl (0, 940, [(2026, 0, 940)]))).set 14 (.inl (0, 4, []))).set 24 (.inl (0, 5, [])))), (18, [])), (144, ([(2, .inl (0, 7, [])), (1, .inl (2, 2, [])), (0, .inr (.inl 12))], [], (((pUM.set 13 (.inl (0, 940, [(2026, 0, 940)]))).set 14 (.inl (0, 4, []))).set 24 (.inl (0, 7, [])))), (27, [])), (144, ([(2, .inl (0, 7, [])), (1, .inl (3, 3, [])), (0, .inr (.inl 12))], [], (((pUM.set 13 (.inl (0, 940, [(2026, 0, 940)]))).set 14 (.inl (0, 4, []))).set 24 (.inl (0, 7, [])))), (37, [])), (144, ([(2, .inl (0, 7, [])), (1, .inl (4, 4, [])), (0, .inr (.inl 12))], [], (((pUM.set 13 (.inl (0, 940, [(2026, 0, 940)]))).set 14 (.inl (0, 4, []))).set 24 (.inl (0, 7, [])))), (47, [])), (204, ([(3, .inl (0, 5, [])), (2, .inl (0, 5, [])), (1, .inl (0, 0, [])), (0, .inr (.inl 12))], [], (((pUM.set 13 (.inl (0, 940, [(2026, 0, 940)]))).set 14 (.inl (1, 1, []))).set 24 (.inl (0, 5, [])))), (7, [])), (204, ([(3, .inl (0, 5, [])), (2, .inl (0, 5, [])), (1, .inl (1, 1, [])), (0, .inr (.inl 12))], [], (((pUM.set 13 (.inl (0, 940, [(2026, 0, 940)]))).set 14 (.inl (1, 1, []))).set 24 (.inl (0, 5, [])))), (17, [])), (204, ([(3, .inl (0, 5, [])), (2, .inl (0, 7, [])), (1, .inl (2, 2, [])), (0, .inr (.inl 12))], [], (((pUM.set 13 (.inl (0, 940, [(2026, 0, 940)]))).set 14 (.inl (1, 1, []))).set 24 (.inl (0, 5, [])))), (26, [])), (204, ([(3, .inl (0, 5, [])), (2, .inl (0, 7, [])), (1, .inl (3, 3, [])), (0, .inr (.inl 12))], [], (((pUM.set 13 (.inl (0, 940, [(2026, 0, 940)]))).set 14 (.inl (1, 1, []))).set 24 (.inl (0, 5, [])))), (36, [])), (204, ([(3, .inl (0, 7, [])), (2, .inl (0, 7, [])), (1, .inl (4, 4, [])), (0, .inr (.inl 12))], [], (((pUM.set 13 (.inl (0, 940, [(2026, 0, 940)]))).set 14 (.inl (1, 1, []))).set 24 (.inl (0, 7, [])))), (46, [])), (242, ([(3, .inl (0, 5, [])), (2, .inl (0, 5, [])), (1, .inl (0, 0, [])), (0, .inr (.inl 12))], [], (((pUM.set 13 (.inl (0, 940, [(2026, 0, 940)]))).set 14 (.inl (1, 1, []))).set 24 (.inl (0, 5, [])))), (6, [])), (242, ([(3, .inl (0, 5, [])), (2, .inl (0, 5, [])), (1, .inl (1, 1, [])), (0, .inr (.inl 12))], [], (((pUM.set 13 (.inl (0, 940, [(2026, 0, 940)]))).set 14 (.inl (1, 1, []))).set 24 (.inl (0, 5, [])))), (16, [])), (242, ([(3, .inl (0, 5, [])), (2, .inl (0, 7, [])), (1, .inl (2, 2, [])), (0, .inr (.inl 12))], [], (((pUM.set 13 (.inl (0, 940, [(2026, 0, 940)]))).set 14 (.inl (1, 1, []))).set 24 (.inl (0, 5, [])))), (25, [])), (242, ([(3, .inl (0, 5, [])), (2, .inl (0, 7, [])), (1, .inl (3, 3, [])), (0, .inr (.inl 12))], [], (((pUM.set 13 (.inl (0, 940, [(2026, 0, 940)]))).set 14 (.inl (1, 1, []))).set 24 (.inl (0, 5, [])))), (35, [])), (242, ([(3, .inl (0, 7, [])), (2, .inl (0, 7, [])), (1, .inl (4, 4, [])), (0, .inr (.inl 12))], [], (((pUM.set 13 (.inl (0, 940, [(2026, 0, 940)]))).set 14 (.inl (1, 1, []))).set 24 (.inl (0, 7, [])))), (45, [])), (263, ([(3, .inl (0, 5, [])), (2, .inl (0, 7, [])), (0, .inr (.inl 12))], [], (((pUM.set 13 (.inl (0, 940, [(2026, 0, 940)]))).set 14 (.inl (0, 0, []))).set 24 (cF))), (24, [])), (263, ([(3, .inl (0, 5, [])), (2, .inl (0, 7, [])), (0, .inr (.inl 12))], [], ((((pUM.set 12 (.inl (1, 940, [(2024, 0, 0)]))).set 13 (.inl (1, 940, [(2026, 1, 940)]))).set 14 (.inl (3, 3, []))).set 24 (cF))), (23, [])), (263, ([(3, .inl (0, 5, [])), (2, .inl (0, 7, [])), (0, .inr (.inl 12))], [], ((((pUM.set 12 (.inl (1, 940, [(2024, 0, 0)]))).set 13 (.inl (0, 940, [(2026, 0, 940)]))).set 14 (.inl (4, 4, []))).set 24 (cF))), (21, [])), (263, ([(3, .inl (0, 5, [])), (2, .inl (0, 7, [])), (0, .inr (.inl 12))], [], ((((pUM.set 12 (.inl (1, 940, [(2024, 0, 0)]))).set 13 (.inl (0, 940, [(2026, 0, 940)]))).set 14 (.inl (1, 2, []))).set 24 (cF))), (22, [])), (283, ([(3, .inl (0, 5, [])), (2, .inl (0, 5, [])), (1, .inl (0, 0, [])), (0, .inr (.inl 12))], [], (((pUM.set 13 (.inl (0, 940, [(2026, 0, 940)]))).set 14 (.inl (1, 1, []))).set 24 (.inl (0, 5, [])))), (5, [])), (283, ([(3, .inl (0, 5, [])), (2, .inl (0, 5, [])), (1, .inl (1, 1, [])), (0, .inr (.inl 12))], [], (((pUM.set 13 (.inl (0, 940, [(2026, 0, 940)]))).set 14 (.inl (1, 1, []))).set 24 (.inl (0, 5, [])))), (15, [])), (283, ([(3, .inl (0, 5, [])), (2, .inl (0, 7, [])), (1, .inl (3, 3, [])), (0, .inr (.inl 12))], [], (((pUM.set 13 (.inl (0, 940, [(2026, 0, 940)]))).set 14 (.inl (1, 1, []))).set 24 (.inl (0, 5, [])))), (34, [])), (283, ([(3, .inl (0, 7, [])), (2, .inl (0, 7, [])), (1, .inl (4, 4, [])), (0, .inr (.inl 12))], [], (((pUM.set 13 (.inl (0, 940, [(2026, 0, 940)]))).set 14 (.inl (1, 1, []))).set 24 (.inl (0, 7, [])))), (44, [])), (325, ([(3, .inl (0, 5, [])), (2, .inl (0, 5, [])), (1, .inl (0, 0, [])), (0, .inr (.inl 12))], [], (((pUM.set 13 (.inl (0, 940, [(2026, 0, 940)]))).set 14 (.inl (0, 0, []))).set 24 (.inl (0, 5, [])))), (1, [])), (325, ([(3, .inl (0, 5, [])), (2, .inl (0, 5, [])), (1, .inl (0, 0, [])), (0, .inr (.inl 12))], [], ((((pUM.set 12 (.inl (1, 940, [(2024, 0, 0)]))).set 13 (.inl (1, 940, [(2026, 1, 940)]))).set 14 (.inl (3, 3, []))).set 24 (.inl (0, 5, [])))), (4, [])), (325, ([(3, .inl (0, 5, [])), (2, .inl (0, 5, [])), (1, .inl (0, 0, [])), (0, .inr (.inl 12))], [], ((((pUM.set 12 (.inl (1, 940, [(2024, 0, 0)]))).set 13 (.inl (0, 940, [(2026, 0, 940)]))).set 14 (.inl (4, 4, []))).set 24 (.inl (0, 5, [])))), (2, [])), (325, ([(3, .inl (0, 5, [])), (2, .inl (0, 5, [])), (1, .inl (0, 0, [])), (0, .inr (.inl 12))], [], ((((pUM.set 12 (.inl (1, 940, [(2024, 0, 0)]))).set 13 (.inl (0, 940, [(2026, 0, 940)]))).set 14 (.inl (1, 2, []))).set 24 (.inl (0, 5, [])))), (3, [])), (325, ([(3, .inl (0, 5, [])), (2, .inl (0, 5, [])), (1, .inl (1, 1, [])), (0, .inr (.inl 12))], [], (((pUM.set 13 (.inl (0, 940, [(2026, 0, 940)]))).set 14 (.inl (0, 0, []))).set 24 (.inl (0, 5, [])))), (12, [])), (325, ([(3, .inl (0, 5, [])), (2, .inl (0, 5, [])), (1, .inl (1, 1, [])), (0, .inr (.inl 12))], [], ((((pUM.set 12 (.inl (1, 940, [(2024, 0, 0)]))).set 13 (.inl (1, 940, [(2026, 1, 940)]))).set 14 (.inl (3, 3, []))).set 24 (.inl (0, 5, [])))), (14, [])), (325, ([(3, .inl (0, 5, [])), (2, .inl (0, 5, [])), (1, .inl (1, 1, [])), (0, .inr (.inl 12))], [], ((((pUM.set 12 (.inl (1, 940, [(2024, 0, 0)]))).set 13 (.inl (0, 940, [(2026, 0, 940)]))).set 14 (.inl (4, 4, []))).set 24 (.inl (0, 5, [])))), (11, [])), (325, ([(3, .inl (0, 5, [])), (2, .inl (0, 5, [])), (1, .inl (1, 1, [])), (0, .inr (.inl 12))], [], ((((pUM.set 12 (.inl (1, 940, [(2024, 0, 0)]))).set 13 (.inl (0, 940, [(2026, 0, 940)]))).set 14 (.inl (1, 2, []))).set 24 (.inl (0, 5, [])))), (13, [])), (325, ([(3, .inl (0, 5, [])), (2, .inl (0, 7, [])), (1, .inl (3, 3, [])), (0, .inr (.inl 12))], [], (((pUM.set 13 (.inl (0, 940, [(2026, 0, 940)]))).set 14 (.inl (0, 0, []))).set 24 (.inl (0, 5, [])))), (30, [])), (325, ([(3, .inl (0, 5, [])), (2, .inl (0, 7, [])), (1, .inl (3, 3, [])), (0, .inr (.inl 12))], [], ((((pUM.set 12 (.inl (1, 940, [(2024, 0, 0)]))).set 13 (.inl (1, 940, [(2026, 1, 940)]))).set 14 (.inl (3, 3, []))).set 24 (.inl (0, 5, [])))), (33, [])), (325, ([(3, .inl (0, 5, [])), (2, .inl (0, 7, [])), (1, .inl (3, 3, [])), (0, .inr (.inl 12))], [], ((((pUM.set 12 (.inl (1, 940, [(2024, 0, 0)]))).set 13 (.inl (0, 940, [(2026, 0, 940)]))).set 14 (.inl (4, 4, []))).set 24 (.inl (0, 5, [])))), (31, [])), (325, ([(3, .inl (0, 5, [])), (2, .inl (0, 7, [])), (1, .inl (3, 3, [])), (0, .inr (.inl 12))], [], ((((pUM.set 12 (.inl (1, 940, [(2024, 0, 0)]))).set 13 (.inl (0, 940, [(2026, 0, 940)]))).set 14 (.inl (1, 2, []))).set 24 (.inl (0, 5, [])))), (32, [])), (325, ([(3, .inl (0, 7, [])), (2, .inl (0, 7, [])), (1, .inl (4, 4, [])), (0, .inr (.inl 12))], [], (((pUM.set 13 (.inl (0, 940, [(2026, 0, 940)]))).set 14 (.inl (0, 0, []))).set 24 (.inl (0, 7, [])))), (43, [])), (325, ([(3, .inl (0, 7, [])), (2, .inl (0, 7, [])), (1, .inl (4, 4, [])), (0, .inr (.inl 12))], [], ((((pUM.set 12 (.inl (1, 940, [(2024, 0, 0)]))).set 13 (.inl (1, 940, [(2026, 1, 940)]))).set 14 (.inl (3, 3, []))).set 24 (.inl (0, 7, [])))), (42, [])), (325, ([(3, .inl (0, 7, [])), (2, .inl (0, 7, [])), (1, .inl (4, 4, [])), (0, .inr (.inl 12))], [], ((((pUM.set 12 (.inl (1, 940, [(2024, 0, 0)]))).set 13 (.inl (0, 940, [(2026, 0, 940)]))).set 14 (.inl (4, 4, []))).set 24 (.inl (0, 7, [])))), (40, [])), (325, ([(3, .inl (0, 7, [])), (2, .inl (0, 7, [])), (1, .inl (4, 4, [])), (0, .inr (.inl 12))], [], ((((pUM.set 12 (.inl (1, 940, [(2024, 0, 0)]))).set 13 (.inl (0, 940, [(2026, 0, 940)]))).set 14 (.inl (1, 2, []))).set 24 (.inl (0, 7, [])))), (41, []))])
/-- 316: RecastStageModel.readScene (by hand) -/
def kc_316 : ck_K := (yX12_readScene, cX12_readScene, 2, (some .boolean), 12, [.inr (.inl 12)], pPM, [(some (.inl (0, 0, [])), [], (((((pU.set 13 (.inl (0, 940, [(2026, 0, 940)]))).set 14 (.inl (0, 4, []))).set 23 (.inl (0, 12, []))).set 24 (cF)).set 31 (.inl (0, 4, [])))), (some (.inl (1, 1, [])), [], (((((pU.set 13 (.inl (0, 940, [(2026, 1, 940)]))).set 14 (.inl (3, 3, []))).set 23 (.inl (0, 12, []))).set 24 (cF)).set 31 (.inl (0, 4, []))))], 4, 76, [])
/-- 317: RecastStageModel.line -/
def kc_317 : ck_K := (yX12_line, cX12_line, 2, (some .boolean), 12, [.inr (.inl 12)], pPM, [(some (.inl (0, 0, [])), [], (((((pUM.set 12 (.inl (1, 940, [(2024, 0, 0)]))).set 13 (.inl (0, 940, [(2026, 0, 940)]))).set 14 (.inl (4, 4, []))).set 24 (.inl (0, 5, []))).set 31 (.inl (1, 4, [])))), (some (.inl (0, 0, [])), [], ((((pUM.set 13 (.inl (0, 940, [(2026, 0, 940)]))).set 14 (.inl (1, 2, []))).set 24 (cF)).set 31 (.inl (1, 4, [])))), (some (.inl (0, 0, [])), [], (((((pUM.set 12 (.inl (1, 940, [(2024, 0, 0)]))).set 13 (.inl (1, 940, [(2026, 1, 940)]))).set 14 (.inl (3, 3, []))).set 24 (.inl (0, 5, []))).set 31 (.inl (1, 4, [])))), (some (.inl (0, 0, [])), [], (((((pUM.set 13 (.inl (0, 940, [(2026, 0, 940)]))).set 14 (.inl (0, 4, []))).set 23 (.inl (0, 12, []))).set 24 (cF)).set 31 (.inl (0, 4, [])))), (some (.inl (1, 1, [])), [], ((((((((pUM.set 12 (.inl (1, 940, [(2024, 0, 0)]))).set 13 (.inl (0, 940, [(2026, 0, 940)]))).set 14 (.inl (4, 4, []))).set 19 (.inl (0, 6, [(2038, 0, 1)]))).set 20 (.inl (0, 6, [(2040, 0, 1)]))).set 21 (.inl (0, 8, [(2042, 0, 1)]))).set 22 (.inl (0, 6, [(2044, 0, 1)]))).set 24 (cF))), (some (.inl (1, 1, [])), [], (((((((pUM.set 13 (.inl (0, 940, [(2026, 0, 940)]))).set 14 (.inl (0, 0, []))).set 19 (.inl (0, 6, [(2038, 0, 1)]))).set 20 (.inl (0, 6, [(2040, 0, 1)]))).set 21 (.inl (0, 8, [(2042, 0, 1)]))).set 22 (.inl (0, 6, [(2044, 0, 1)]))).set 24 (cF))), (some (.inl (1, 1, [])), [], (((((((((pUM.set 13 (.inl (1, 940, [(2026, 1, 940)]))).set 14 (.inl (3, 3, []))).set 19 (.inl (0, 6, [(2038, 0, 1)]))).set 20 (.inl (0, 6, [(2040, 0, 1)]))).set 21 (.inl (0, 8, [(2042, 0, 1)]))).set 22 (.inl (0, 6, [(2044, 0, 1)]))).set 23 (.inl (0, 12, []))).set 24 (cF)).set 31 (.inl (0, 4, [])))), (some (.inl (1, 1, [])), [], ((((((((pUM.set 12 (.inl (1, 940, [(2024, 0, 0)]))).set 13 (.inl (0, 940, [(2026, 0, 940)]))).set 14 (.inl (1, 2, []))).set 19 (.inl (0, 6, [(2038, 0, 1)]))).set 20 (.inl (0, 6, [(2040, 0, 1)]))).set 21 (.inl (0, 8, [(2042, 0, 1)]))).set 22 (.inl (0, 6, [(2044, 0, 1)]))).set 24 (cF)))], 5, 102, [(33, ([(1, .inl (0, 5, [(2038, 0, 0)])), (0, .inr (.inl 12))], [], (((pUM.set 13 (.inl (0, 940, [(2026, 0, 940)]))).set 14 (.inl (0, 4, []))).set 19 (.inl (0, 5, [(2038, 0, 0)])))), (1, [])), (44, ([(1, .inl (0, 5, [(2038, 0, 0)])), (0, .inr (.inl 12))], [], (((pUM.set 13 (.inl (0, 940, [(2026, 0, 940)]))).set 14 (.inl (0, 4, []))).set 19 (.inl (0, 5, [(2038, 0, 0)])))), (0, [])), (81, ([(0, .inr (.inl 12))], [], pUM), (14, [])), (112, ([(0, .inr (.inl 12))], [], (((pUM.set 13 (.inl (0, 940, [(2026, 0, 940)]))).set 14 (.inl (0, 4, []))).set 20 (.inl (0, 5, [(2040, 0, 0)])))), (13, [])), (142, ([(0, .inr (.inl 12))], [], pUM), (12, [])), (175, ([(1, .inl (0, 7, [(2042, 0, 0)])), (0, .inr (.inl 12))], [], (((pUM.set 13 (.inl (0, 940, [(2026, 0, 940)]))).set 14 (.inl (0, 4, []))).set 21 (.inl (0, 7, [(2042, 0, 0)])))), (11, [])), (186, ([(1, .inl (0, 7, [(2042, 0, 0)])), (0, .inr (.inl 12))], [], (((pUM.set 13 (.inl (0, 940, [(2026, 0, 940)]))).set 14 (.inl (0, 4, []))).set 21 (.inl (0, 7, [(2042, 0, 0)])))), (10, [])), (198, ([(1, .inl (0, 7, [(2042, 0, 0)])), (0, .inr (.inl 12))], [], ((((pUM.set 13 (.inl (0, 940, [(2026, 0, 940)]))).set 14 (.inl (0, 4, []))).set 21 (.inl (0, 7, [(2042, 0, 0)]))).set 24 (cF))), (9, [])), (248, ([(0, .inr (.inl 12))], [], pUM), (8, [])), (291, ([(0, .inr (.inl 12))], [], pUM), (7, [])), (330, ([(0, .inr (.inl 12))], [], pUM), (6, [])), (345, ([(0, .inr (.inl 12))], [], pUM), (5, [])), (398, ([(1, .inl (0, 11, [(2046, -1, -1)])), (0, .inr (.inl 12))], [], (((pUM.set 13 (.inl (0, 940, [(2026, 0, 940)]))).set 14 (.inl (0, 4, []))).set 23 (.inl (1, 12, [(2046, 0, 0)])))), (3, [])), (413, ([(1, .inl (0, 11, [(2046, -1, -1)])), (0, .inr (.inl 12))], [], ((((pUM.set 13 (.inl (0, 940, [(2026, 0, 940)]))).set 14 (.inl (1, 1, []))).set 23 (.inl (1, 12, [(2046, 0, 0)]))).set 24 (.inl (0, 5, [])))), (2, [])), (431, ([(0, .inr (.inl 12))], [], pUM), (4, []))])
/-- 318: RecastStageModel.castsBy (by hand) -/
def kc_318 : ck_K := (yX12_castsBy, cX12_castsBy, 5, none, 12, [.inr (.inl 12), .inl (0, 1, []), cF], pPM, [(none, [], pU)], 5, 103, [])
/-- 319: RecastStageModel.best -/
def kc_319 : ck_K := (yX12_best, cX12_best, 2, (some .int), 12, [.inr (.inl 12)], pPM, [(some (cF), [], pUM)], 6, 127, [(22, ([(1, .inl (0, 6, [])), (0, .inr (.inl 12))], [], pUM), (12, [(1, -2)]))])
/-- 320: RecastStageModel.castsBest -/
def kc_320 : ck_K := (yX12_castsBest, cX12_castsBest, 2, (some .boolean), 12, [.inr (.inl 12)], pPM, [(some (.inl (0, 0, [])), [], pUM), (some (.inl (1, 1, [])), [], pUM)], 6, 127, [(21, ([(1, .inl (0, 6, [])), (0, .inr (.inl 12))], [], pUM), (12, [(1, -2)]))])
/-- 321: RecastStageModel.bowed -/
def kc_321 : ck_K := (yX12_bowed, cX12_bowed, 2, (some .int), 12, [.inr (.inl 12), cF], pPM, [(some (cF), [], pUM)], 6, 127, [])
/-- 322: RecastStageModel.casts -/
def kc_322 : ck_K := (yX12_casts, cX12_casts, 1, (some .int), 12, [.inr (.inl 12)], pPM, [(some (cF), [], pUM)], 6, 127, [])
/-- 323: RecastStageModel.draws -/
def kc_323 : ck_K := (yX12_draws, cX12_draws, 4, (some .int), 12, [.inr (.inl 12), cF], pPM, [(some (cF), [], (pU.set 16 (.inl (0, 6, [(2032, 0, 6), (2034, -6, 0)]))))], 7, 148, [(7, ([(2, cF), (0, .inr (.inl 12))], [], (pU.set 16 (.inl (0, 6, [(2032, 0, 6), (2034, -6, 0)])))), (145, [(1016, -21)])), (16, ([(3, .inl (0, 8, [])), (2, cF), (0, .inr (.inl 12))], [], (pU.set 16 (.inl (0, 5, [(2032, 0, 5), (2034, -6, -1)])))), (142, [(1016, -21), (3, -2)]))])
/-- 324: RecastStageModel.goesOnBy -/
def kc_324 : ck_K := (yX12_goesOnBy, cX12_goesOnBy, 3, (some .int), 12, [.inr (.inl 12)], pPM, [(some (cF), [], (pUM.set 18 (.inl (0, 6, [(2032, 0, 0), (2034, -6, 0)]))))], 7, 148, [(15, ([(2, cF), (1, cF), (0, .inr (.inl 12))], [], ((pU.set 16 (.inl (0, 6, [(2032, 0, 6), (2034, -6, 0)]))).set 18 (.inl (0, 6, [(2032, 0, 0), (2034, -6, 0)])))), (12, [(1016, -2)]))])
/-- 325: RecastStageModel.goesOn -/
def kc_325 : ck_K := (yX12_goesOn, cX12_goesOn, 1, (some .int), 12, [.inr (.inl 12)], pPM, [(some (cF), [], (pUM.set 18 (.inl (0, 6, [(2032, 0, 0), (2034, -6, 0)]))))], 8, 170, [])
/-- 326: RecastStageModel.joy -/
def kc_326 : ck_K := (yX12_joy, cX12_joy, 1, (some .int), 12, [.inr (.inl 12)], pPM, [(some (cF), [], (pUM.set 18 (.inl (0, 6, [(2032, 0, 0), (2034, -6, 0)]))))], 8, 170, [])
/-- 327: RecastStageModel.least -/
def kc_327 : ck_K := (yX12_least, cX12_least, 1, (some .int), 12, [.inr (.inl 12)], pPM, [(some (cF), [], pUM)], 6, 127, [])
/-- 328: RecastStageModel.odds -/
def kc_328 : ck_K := (yX12_odds, cX12_odds, 5, (some .int), 12, [.inr (.inl 12), cF, cF], pPM, [(some (cF), [], (pUM.set 18 (.inl (0, 6, []))))], 8, 171, [(42, ([(4, .inl (0, 40, [])), (3, cF), (0, .inr (.inl 12)), (1, .inl (1, 40, [(2, 0, 0)])), (2, .inl (-2147483648, 2147483647, [(4, 0, 0)]))], [], ((pU.set 16 (.inl (0, 5, [(2032, 0, 0), (2034, -6, -1)]))).set 18 (.inl (0, 5, [(2032, 0, 0), (2034, -6, -1)])))), (80, [(4, -2)]))])
/-- 329: RecastStageModel.surely -/
def kc_329 : ck_K := (yX12_surely, cX12_surely, 1, (some .int), 12, [.inr (.inl 12)], pPM, [(some (cF), [], pUM)], 6, 127, [])
/-- 330: RecastStageModel.whispers -/
def kc_330 : ck_K := (yX12_whispers_, cX12_whispers_, 1, (some .int), 12, [.inr (.inl 12)], pPM, [(some (cF), [], pUM)], 6, 127, [])
/-- 331: RecastStage$Book.judge (by hand) -/
def kc_331 : ck_K := (yX0_judge, cX0_judge, 6, (some .int), 0, [.inr (.inl 0), .inr (.inl 6), .inr (.inl 2), .inr (.inl 1)], pP, [(some (cF), [], (pU.set 7 (.inl (0, 6, []))))], 12, 278, [])
/-- 332: RecastStage$Book.read (by hand) -/
def kc_332 : ck_K := (yX0_read, cX0_read, 4, none, 0, [.inr (.inl 0), .inr (.inl 8), .inr (.inl 6)], pP, [(none, [], ((pU.set 1 (.inl (0, 940, []))).set 25 (.inl (0, 4, []))))], 6, 127, [])
/-- 333: RecastStage.book -/
def kc_333 : ck_K := (yX11_book, cX11_book, 3, (some .int), 11, [.inr (.inl 11), .inl (-2147483648, -1, [])], pP, [(some (.inl (-1000, -1000, [])), [], pU)], 1, 12, [])
/-- 334: RecastStage.book -/
def kc_334 : ck_K := (yX11_book, cX11_book, 3, (some .int), 11, [.inr (.inl 11), .inl (0, 1, [])], pP, [(some (cF), [], ((((((pU.set 0 (.inl (0, 0, []))).set 1 (.inl (0, 940, []))).set 7 (.inl (0, 6, []))).set 8 (.inl (0, 8, [(2016, 0, 1)]))).set 25 (.inl (0, 4, []))).set 30 (.inl (0, 4, []))))], 13, 303, [])
/-- 335: RecastStage.book -/
def kc_335 : ck_K := (yX11_book, cX11_book, 3, (some .int), 11, [.inr (.inl 11), .inl (2, 2147483647, [])], pP, [(some (.inl (-1000, -1000, [])), [], pU)], 1, 12, [])
/-- 336: RecastStageModel.keep (by hand) -/
def kc_336 : ck_K := (yX12_keep, cX12_keep, 2, none, 12, [.inr (.inl 12)], pPM, [(none, [], (pU.set 15 (.inl (1, 8, []))))], 1, 12, [])
/-- 337: RecastStageModel.book (by hand) -/
def kc_337 : ck_K := (yX12_book, cX12_book, 5, (some .int), 12, [.inr (.inl 12), cF], pPM, [(some (cF), [(1, 0, 1)], (((((((((pU.set 11 (.inl (0, 0, []))).set 12 (.inl (0, 940, []))).set 13 (.inl (0, 940, []))).set 14 (.inl (0, 4, []))).set 15 (.inl (0, 8, []))).set 16 (.inl (0, 6, [(2034, -6, 0)]))).set 18 (.inl (0, 6, []))).set 24 (cF)).set 31 (.inl (0, 4, [])))), (some (.inl (-1000, -1000, [])), [(1, -2147483648, -1)], ((((((((pU.set 12 (.inl (0, 940, []))).set 13 (.inl (0, 940, []))).set 14 (.inl (0, 4, []))).set 15 (.inl (0, 8, []))).set 16 (.inl (0, 6, [(2034, -6, 0)]))).set 18 (.inl (0, 6, []))).set 24 (cF)).set 31 (.inl (0, 4, [])))), (some (.inl (-1000, -1000, [])), [(1, 2, 2147483647)], ((((((((pU.set 12 (.inl (0, 940, []))).set 13 (.inl (0, 940, []))).set 14 (.inl (0, 4, []))).set 15 (.inl (0, 8, []))).set 16 (.inl (0, 6, [(2034, -6, 0)]))).set 18 (.inl (0, 6, []))).set 24 (cF)).set 31 (.inl (0, 4, []))))], 8, 172, [])
/-- 338: RecastStageModel.cast -/
def kc_338 : ck_K := (yX12_cast, cX12_cast, 4, (some .int), 12, [.inr (.inl 12), cF, cF], pPM, [(some (.inl (-1, 10, [])), [], (pUM.set 15 (.inl (0, 8, []))))], 4, 81, [])
/-- 339: RecastStageModel.curtain -/
def kc_339 : ck_K := (yX12_curtain, cX12_curtain, 1, (some .int), 12, [.inr (.inl 12)], pPM, [(some (.inl (-1, 6, [])), [], ((pU.set 15 (.inl (0, 8, []))).set 16 (.inl (0, 6, [(2032, 0, 1), (2034, -6, 0)]))))], 4, 79, [])
/-- 340: RecastStageModel.drawn -/
def kc_340 : ck_K := (yX12_drawn, cX12_drawn, 2, (some .int), 12, [.inr (.inl 12), cF], pPM, [(some (cF), [], ((pU.set 15 (.inl (0, 8, []))).set 16 (.inl (0, 6, [(2032, 0, 6), (2034, -6, 0)]))))], 8, 171, [])
/-- 341: RecastStageModel.drop -/
def kc_341 : ck_K := (yX12_drop, cX12_drop, 3, (some .int), 12, [.inr (.inl 12), cF], pPM, [(some (.inl (-1, 7, [])), [], (pUM.set 15 (.inl (0, 8, []))))], 3, 55, [])
/-- 342: RecastStageModel.image -/
def kc_342 : ck_K := (yX12_image, cX12_image, 3, (some .boolean), 12, [.inr (.inl 12), .inl (-2147483648, -1, [])], pPM, [(some (.inl (0, 0, [])), [], pUM)], 2, 34, [])
/-- 343: RecastStageModel.image -/
def kc_343 : ck_K := (yX12_image, cX12_image, 3, (some .boolean), 12, [.inr (.inl 12), .inl (2, 2147483647, [])], pPM, [(some (.inl (0, 0, [])), [], pUM)], 2, 34, [])
/-- 344: RecastStageModel.isSaid (by hand) -/
def kc_344 : ck_K := (yX12_isSaid, cX12_isSaid, 5, (some .boolean), 12, [.inr (.inl 12), .inl (0, 7, [])], pPM, [(some (.inl (0, 1, [])), [], pU)], 5, 102, [])
/-- 345: RecastStageModel.restore -/
def kc_345 : ck_K := (yX12_restore, cX12_restore, 3, (some .boolean), 12, [.inr (.inl 12), .inl (-2147483648, -1, [])], pPM, [(some (.inl (0, 0, [])), [], pUM)], 2, 34, [])
/-- 346: RecastStageModel.restore -/
def kc_346 : ck_K := (yX12_restore, cX12_restore, 3, (some .boolean), 12, [.inr (.inl 12), .inl (2, 2147483647, [])], pPM, [(some (.inl (0, 0, [])), [], pUM)], 2, 34, [])
/-- 347: RecastStageModel.said -/
def kc_347 : ck_K := (yX12_said, cX12_said, 4, (some .int), 12, [.inr (.inl 12), cF], pPM, [(some (cF), [], pUM)], 6, 126, [(27, ([(3, .inl (0, 8, [])), (2, cF), (0, .inr (.inl 12)), (1, .inl (-1, 2147483647, [(2, 0, 0)]))], [], pUM), (16, [(3, -2)]))])
/-- 348: RecastStageModel.sentence (by hand) -/
def kc_348 : ck_K := (yX12_sentence, cX12_sentence, 3, (some .int), 12, [.inr (.inl 12)], pPM, [(some (cF), [], ((((((pU.set 11 (.inl (0, 0, []))).set 12 (.inl (0, 940, []))).set 13 (.inl (0, 940, []))).set 14 (.inl (0, 4, []))).set 24 (cF)).set 31 (.inl (0, 4, []))))], 4, 79, [])
/-- 349: RecastStageModel.undo (by hand) -/
def kc_349 : ck_K := (yX12_undo, cX12_undo, 2, (some .int), 12, [.inr (.inl 12)], pPM, [(some (.inl (-1, -1, [])), [], pU), (some (.inl (0, 7, [])), [], ((pU.set 15 (.inl (0, 7, []))).set 16 (.inl (0, 6, [(2034, -6, 0)]))))], 1, 12, [])
/-- 350: RecastStageModel.whisper -/
def kc_350 : ck_K := (yX12_whisper, cX12_whisper, 3, (some .boolean), 12, [.inr (.inl 12), cF, cF], pPM, [(some (.inl (0, 0, [])), [], pUM), (some (.inl (1, 1, [])), [(1, 0, 7), (2, 0, 5)], ((pU.set 15 (.inl (1, 8, []))).set 16 (.inl (0, 5, [(2032, 0, 0), (2034, -6, -1)]))))], 4, 77, [])
/-- None: RecastStage$Play.copyFrom (by hand) -/
def kh_6_copyFrom_pt : ck_K := (yX6_copyFrom, cX6_copyFrom, 2, none, 6, [.inr (.inl 6), .inr (.inl 13)], pP, [(none, [], pU)], 1, 26, [])
/-- None: RecastStage$Play.copyFrom (by hand) -/
def kh_6_copyFrom_pi : ck_K := (yX6_copyFrom, cX6_copyFrom, 2, none, 6, [.inr (.inl 6), .inr (.inl 51)], pP, [(none, [], pU)], 1, 26, [])
/-- None: RecastStage$Play.copyFrom (by hand) -/
def kh_6_copyFrom_pj : ck_K := (yX6_copyFrom, cX6_copyFrom, 2, none, 6, [.inr (.inl 6), .inr (.inl 52)], pP, [(none, [], pU)], 1, 26, [])
/-- None: RecastStage$Play.copyFrom (by hand) -/
def kh_6_copyFrom_ip : ck_K := (yX6_copyFrom, cX6_copyFrom, 2, none, 6, [.inr (.inl 51), .inr (.inl 6)], pP, [(none, [], pU)], 1, 26, [])
/-- None: RecastStage$Play.copyFrom (by hand) -/
def kh_6_copyFrom_jp : ck_K := (yX6_copyFrom, cX6_copyFrom, 2, none, 6, [.inr (.inl 52), .inr (.inl 6)], pP, [(none, [], pU)], 1, 26, [])
/-- None: RecastStage$Tape.append (by hand) -/
def kh_10_append : ck_K := (yX10_append, cX10_append, 2, none, 10, [.inr (.inl 10), cF], (pP.set 0 (.inl (0, 936, []))), [(none, [], (pU.set 0 (.inl (0, 940, [(2000, 4, 4)]))))], 2, 33, [])
/-- None: RecastStage.feed (by hand) -/
def kh_11_feed : ck_K := (yX11_feed, cX11_feed, 6, (some .int), 11, [.inr (.inl 11), cF, cF, cF, cF, cF], pP, [(some (.inl (-1, -1, [])), [], pU), (some (.inl (20, 940, [])), [], (pU.set 0 (.inl (0, 940, [(2000, 20, 20)]))))], 3, 54, [])
/-- None: RecastStageModel.four (by hand) -/
def kh_12_four : ck_K := (yX12_four, cX12_four, 3, none, 12, [.inr (.inl 12), cF], (pPM.set 11 (.inl (0, 936, []))), [(none, [], (pU.set 11 (.inl (0, 940, [(2022, 4, 4)]))))], 1, 12, [])
/-- None: RecastStageModel.feed (by hand) -/
def kh_12_feed : ck_K := (yX12_feed, cX12_feed, 6, (some .int), 12, [.inr (.inl 12), cF, cF, cF, cF, cF], pPM, [(some (.inl (-1, -1, [])), [], pU), (some (.inl (20, 940, [])), [], (pU.set 11 (.inl (0, 940, [(2022, 20, 20)]))))], 2, 34, [])
/-- None: RecastStage.image (by hand) -/
def kh_11_image_0 : ck_K := (yX11_image, cX11_image, 3, (some .boolean), 11, [.inr (.inl 11), .inl (0, 0, [])], pP, [(some (.inl (0, 1, [])), [], pU)], 2, 47, [])
/-- None: RecastStage.image (by hand) -/
def kh_11_image_1 : ck_K := (yX11_image, cX11_image, 3, (some .boolean), 11, [.inr (.inl 11), .inl (1, 1, [])], pP, [(some (.inl (0, 1, [])), [], pU)], 2, 47, [])
/-- None: RecastStage.play (by hand) -/
def kh_11_play : ck_K := (yX11_play, cX11_play, 2, (some .int), 11, [.inr (.inl 11)], pP, [(some (cF), [], (pU.set 30 (.inl (0, 4, []))))], 8, 170, [])
/-- None: RecastStage.restore (by hand) -/
def kh_11_restore_0 : ck_K := (yX11_restore, cX11_restore, 3, (some .boolean), 11, [.inr (.inl 11), .inl (0, 0, [])], pP, [(some (.inl (0, 1, [])), [], pU)], 2, 47, [])
/-- None: RecastStage.restore (by hand) -/
def kh_11_restore_1 : ck_K := (yX11_restore, cX11_restore, 3, (some .boolean), 11, [.inr (.inl 11), .inl (1, 1, [])], pP, [(some (.inl (0, 1, [])), [], pU)], 2, 47, [])
/-- None: RecastStage$Book.whyWrong (by hand) -/
def kh_0_whyWrong : ck_K := (yX0_whyWrong, cX0_whyWrong, 7, (some .int), 0, [.inr (.inl 0), .inl (0, 39, []), .inr (.inl 6), .inr (.inl 2), .inr (.inl 1)], pP, [(some (cF), [], (pU.set 7 (.inl (0, 6, []))))], 11, 252, [])
/-- None: RecastStage$Book.readLine (by hand) -/
def kh_0_readLine : ck_K := (yX0_readLine, cX0_readLine, 5, none, 0, [.inr (.inl 0), .inr (.inl 8), .inr (.inl 6)], pP, [(none, [], ((pU.set 1 (.inl (0, 940, []))).set 25 (.inl (0, 4, []))))], 5, 103, [])
/-- None: RecastStageModel.code (by hand) -/
def kh_12_code : ck_K := (yX12_code, cX12_code, 4, none, 12, [.inr (.inl 12), cF, cF, cF], pPM, [(none, [], pU)], 1, 12, [])
/-- None: RecastStageModel.joins (by hand) -/
def kh_12_joins : ck_K := (yX12_joins, cX12_joins, 2, none, 12, [.inr (.inl 12), cF], pPM, [(none, [], pU)], 2, 35, [])
/-- None: RecastStageModel.nots (by hand) -/
def kh_12_nots : ck_K := (yX12_nots, cX12_nots, 1, none, 12, [.inr (.inl 12)], pPM, [(none, [], pU)], 2, 35, [])
/-- None: RecastStageModel.behind (by hand) -/
def kh_12_behind : ck_K := (yX12_behind, cX12_behind, 1, (some .boolean), 12, [.inr (.inl 12)], pPM, [(some (.inl (0, 1, [])), [], (((((pU.set 12 (.inl (0, 940, []))).set 13 (.inl (0, 940, []))).set 14 (.inl (0, 4, []))).set 24 (cF)).set 31 (.inl (0, 4, []))))], 3, 56, [])
/-- None: RecastStageModel.bookLine (by hand) -/
def kh_12_bookLine : ck_K := (yX12_bookLine, cX12_bookLine, 3, (some .boolean), 12, [.inr (.inl 12)], pPM, [(some (.inl (0, 1, [])), [], (((((pU.set 12 (.inl (0, 940, []))).set 13 (.inl (0, 940, []))).set 14 (.inl (0, 4, []))).set 24 (cF)).set 31 (.inl (0, 4, []))))], 3, 57, [])
/-- None: RecastStageModel.does (by hand) -/
def kh_12_does : ck_K := (yX12_does, cX12_does, 5, (some .int), 12, [.inr (.inl 12), .inl (0, 117, [])], pPM, [(some (cF), [], (pU.set 16 (.inl (0, 6, [(2034, -6, 0)]))))], 7, 148, [])
/-- None: RecastStageModel.image (by hand) -/
def kh_12_image_0 : ck_K := (yX12_image, cX12_image, 3, (some .boolean), 12, [.inr (.inl 12), .inl (0, 0, [])], pPM, [(some (.inl (1, 1, [])), [], (pU.set 28 (.inl (1, 1, []))))], 2, 34, [])
/-- None: RecastStageModel.image (by hand) -/
def kh_12_image_1 : ck_K := (yX12_image, cX12_image, 3, (some .boolean), 12, [.inr (.inl 12), .inl (1, 1, [])], pPM, [(some (.inl (1, 1, [])), [], (pU.set 29 (.inl (1, 1, []))))], 2, 34, [])
/-- None: RecastStageModel.operand (by hand) -/
def kh_12_operand : ck_K := (yX12_operand, cX12_operand, 5, (some .boolean), 12, [.inr (.inl 12)], pPM, [(some (.inl (0, 1, [])), [], (((((pU.set 12 (.inl (0, 940, []))).set 13 (.inl (0, 940, []))).set 14 (.inl (0, 4, []))).set 24 (cF)).set 31 (.inl (0, 4, []))))], 3, 55, [])
/-- None: RecastStageModel.play (by hand) -/
def kh_12_play : ck_K := (yX12_play, cX12_play, 2, (some .int), 12, [.inr (.inl 12)], pPM, [(some (cF), [], (((((((((((pU.set 11 (.inl (0, 0, []))).set 12 (.inl (0, 940, []))).set 13 (.inl (0, 940, []))).set 14 (.inl (0, 4, []))).set 19 (.inl (0, 6, []))).set 20 (.inl (0, 6, []))).set 21 (.inl (0, 8, []))).set 22 (.inl (0, 6, []))).set 23 (.inl (0, 12, []))).set 24 (cF)).set 31 (.inl (0, 4, [])))), (some (cF), [], [.inl (0, 940, [(2000, 0, 0)]), .inl (0, 940, [(2002, 0, 0)]), .inl (0, 6, [(2004, 0, 0)]), .inl (0, 6, [(2006, 0, 0)]), .inl (0, 8, [(2008, 0, 0)]), .inl (0, 6, [(2010, 0, 0)]), .inl (0, 12, [(2012, 0, 0)]), .inl (0, 6, [(2014, 0, 0)]), .inl (0, 8, [(2016, 0, 0)]), .inl (0, 20, [(2018, 0, 0)]), .inl (0, 40, [(2020, 0, 0)]), .inl (0, 0, []), .inl (0, 940, []), .inl (0, 940, []), .inl (0, 4, []), .inl (0, 0, []), .inl (0, 0, []), .inl (0, 6, []), .inl (0, 6, [(2036, 0, 0)]), .inl (0, 6, []), .inl (0, 6, []), .inl (0, 8, []), .inl (0, 6, []), .inl (0, 12, []), cF, .inl (0, 4, [(2050, 0, 0)]), .inl (0, 1, [(2052, 0, 0)]), .inl (0, 1, [(2054, 0, 0)]), .inl (0, 1, [(2056, 0, 0)]), .inl (0, 1, [(2058, 0, 0)]), .inl (0, 4, [(2060, 0, 0)]), .inl (0, 4, [])])], 6, 123, [])
/-- None: RecastStageModel.restore (by hand) -/
def kh_12_restore_0 : ck_K := (yX12_restore, cX12_restore, 3, (some .boolean), 12, [.inr (.inl 12), .inl (0, 0, [])], pPM, [(some (.inl (0, 0, [])), [], (pU.set 28 (.inl (0, 0, [(2056, 0, 0)])))), (some (.inl (1, 1, [])), [], ((((pU.set 15 (.inl (0, 0, []))).set 16 (.inl (0, 0, []))).set 17 (.inl (0, 0, []))).set 28 (.inl (1, 1, [(2056, 0, 0)])))), (some (.inl (1, 1, [])), [], ((((pU.set 15 (.inl (0, 0, []))).set 16 (.inl (0, 1, []))).set 17 (.inl (1, 1, []))).set 28 (.inl (1, 1, [(2056, 0, 0)])))), (some (.inl (1, 1, [])), [], ((((pU.set 15 (.inl (0, 0, []))).set 16 (.inl (0, 2, []))).set 17 (.inl (2, 2, []))).set 28 (.inl (1, 1, [(2056, 0, 0)])))), (some (.inl (1, 1, [])), [], ((((pU.set 15 (.inl (0, 0, []))).set 16 (.inl (0, 3, []))).set 17 (.inl (3, 3, []))).set 28 (.inl (1, 1, [(2056, 0, 0)])))), (some (.inl (1, 1, [])), [], ((((pU.set 15 (.inl (0, 0, []))).set 16 (.inl (0, 4, []))).set 17 (.inl (4, 4, []))).set 28 (.inl (1, 1, [(2056, 0, 0)])))), (some (.inl (1, 1, [])), [], ((((pU.set 15 (.inl (0, 0, []))).set 16 (.inl (0, 5, []))).set 17 (.inl (5, 5, []))).set 28 (.inl (1, 1, [(2056, 0, 0)])))), (some (.inl (1, 1, [])), [], ((((pU.set 15 (.inl (0, 0, []))).set 16 (.inl (0, 6, []))).set 17 (.inl (6, 6, []))).set 28 (.inl (1, 1, [(2056, 0, 0)]))))], 2, 34, [])
/-- None: RecastStageModel.restore (by hand) -/
def kh_12_restore_1 : ck_K := (yX12_restore, cX12_restore, 3, (some .boolean), 12, [.inr (.inl 12), .inl (1, 1, [])], pPM, [(some (.inl (0, 0, [])), [], (pU.set 29 (.inl (0, 0, [(2058, 0, 0)])))), (some (.inl (1, 1, [])), [], ((((pU.set 15 (.inl (0, 0, []))).set 16 (.inl (0, 0, []))).set 17 (.inl (0, 0, []))).set 29 (.inl (1, 1, [(2058, 0, 0)])))), (some (.inl (1, 1, [])), [], ((((pU.set 15 (.inl (0, 0, []))).set 16 (.inl (0, 1, []))).set 17 (.inl (1, 1, []))).set 29 (.inl (1, 1, [(2058, 0, 0)])))), (some (.inl (1, 1, [])), [], ((((pU.set 15 (.inl (0, 0, []))).set 16 (.inl (0, 2, []))).set 17 (.inl (2, 2, []))).set 29 (.inl (1, 1, [(2058, 0, 0)])))), (some (.inl (1, 1, [])), [], ((((pU.set 15 (.inl (0, 0, []))).set 16 (.inl (0, 3, []))).set 17 (.inl (3, 3, []))).set 29 (.inl (1, 1, [(2058, 0, 0)])))), (some (.inl (1, 1, [])), [], ((((pU.set 15 (.inl (0, 0, []))).set 16 (.inl (0, 4, []))).set 17 (.inl (4, 4, []))).set 29 (.inl (1, 1, [(2058, 0, 0)])))), (some (.inl (1, 1, [])), [], ((((pU.set 15 (.inl (0, 0, []))).set 16 (.inl (0, 5, []))).set 17 (.inl (5, 5, []))).set 29 (.inl (1, 1, [(2058, 0, 0)])))), (some (.inl (1, 1, [])), [], ((((pU.set 15 (.inl (0, 0, []))).set 16 (.inl (0, 6, []))).set 17 (.inl (6, 6, []))).set 29 (.inl (1, 1, [(2058, 0, 0)]))))], 2, 34, [])
abbrev kn_8_isAtName : ck_K := kc_0
abbrev kn_0_canBegin : ck_K := kc_1
abbrev kn_11_has : ck_K := kc_2
abbrev kn_14_min : ck_K := kc_3
abbrev kn_1_cheapestAt : ck_K := kc_4
abbrev kn_1_freeMen : ck_K := kc_5
abbrev kn_1_seekCheapest_6 : ck_K := kc_6
abbrev kn_1_seekCheapest_5 : ck_K := kc_7
abbrev kn_1_seekCheapest_4 : ck_K := kc_8
abbrev kn_1_seekCheapest_3 : ck_K := kc_9
abbrev kn_1_seekCheapest_2 : ck_K := kc_10
abbrev kn_1_seekCheapest_1 : ck_K := kc_11
abbrev kn_1_seekCheapest_0 : ck_K := kc_12
abbrev kn_1_findCheapest : ck_K := kc_13
abbrev kn_2_isOver : ck_K := kc_14
abbrev kn_2_unknownTo : ck_K := kc_15
abbrev kn_6_partsOf : ck_K := kc_16
abbrev kn_2_whyUnfit : ck_K := kc_17
abbrev kn_1_ableMen : ck_K := kc_18
abbrev kn_6_partsBeside : ck_K := kc_19
abbrev kn_1_prepare : ck_K := kc_20
abbrev kn_6_liking_p : ck_K := kc_21
abbrev kn_6_liking_t : ck_K := kc_22
abbrev kn_1_findBest : ck_K := kc_23
abbrev kn_2_canEndAct : ck_K := kc_24
abbrev kn_2_canTell : ck_K := kc_25
abbrev kn_2_meetsFoe : ck_K := kc_26
abbrev kn_2_partOf : ck_K := kc_27
abbrev kn_2_whyNot : ck_K := kc_28
abbrev kn_2_clap : ck_K := kc_29
abbrev kn_2_learn : ck_K := kc_30
abbrev kn_14_abs : ck_K := kc_31
abbrev kn_2_lossBy : ck_K := kc_32
abbrev kn_2_menOn : ck_K := kc_33
abbrev kn_2_tell : ck_K := kc_34
abbrev kn_8_fail : ck_K := kc_35
abbrev kn_8_isFine : ck_K := kc_36
abbrev kn_8_indexOf_tp : ck_K := kc_37
abbrev kn_8_indexOf_tf : ck_K := kc_38
abbrev kn_8_indexOf_tm : ck_K := kc_39
abbrev kn_8_indexOf_27 : ck_K := kc_40
abbrev kn_8_indexOf_pp : ck_K := kc_41
abbrev kn_8_indexOf_pf : ck_K := kc_42
abbrev kn_8_indexOf_pm : ck_K := kc_43
abbrev kn_8_nameHere_tp : ck_K := kc_44
abbrev kn_8_nameHere_tf : ck_K := kc_45
abbrev kn_8_nameHere_tm : ck_K := kc_46
abbrev kn_8_nameHere_pp : ck_K := kc_47
abbrev kn_8_nameHere_pf : ck_K := kc_48
abbrev kn_8_nameHere_pm : ck_K := kc_49
abbrev kn_8_isBlank : ck_K := kc_50
abbrev kn_8_isDigit : ck_K := kc_51
abbrev kn_8_isLetter : ck_K := kc_52
abbrev kn_8_isSign : ck_K := kc_53
abbrev kn_8_withLetter : ck_K := kc_54
abbrev kn_10_byteAt : ck_K := kc_55
abbrev kn_8_readRun : ck_K := kc_56
abbrev kn_8_step : ck_K := kc_57
abbrev kn_8_takeName_tp : ck_K := kc_58
abbrev kn_8_takeName_tf : ck_K := kc_59
abbrev kn_8_takeName_tm : ck_K := kc_60
abbrev kn_8_takeName_pp : ck_K := kc_61
abbrev kn_8_takeName_pf : ck_K := kc_62
abbrev kn_8_takeName_pm : ck_K := kc_63
abbrev kn_8_isAtWord : ck_K := kc_64
abbrev kn_8_takeWord : ck_K := kc_65
abbrev kn_8_wordHere : ck_K := kc_66
abbrev kn_8_isAtSign : ck_K := kc_67
abbrev kn_8_takeSign : ck_K := kc_68
abbrev kn_1_ableForAny : ck_K := kc_69
abbrev kn_13_bitCount : ck_K := kc_70
abbrev kn_1_addLast : ck_K := kc_71
abbrev kn_1_seekAll_6 : ck_K := kc_72
abbrev kn_1_seekAll_5 : ck_K := kc_73
abbrev kn_1_seekAll_4 : ck_K := kc_74
abbrev kn_1_seekAll_3 : ck_K := kc_75
abbrev kn_1_seekAll_2 : ck_K := kc_76
abbrev kn_1_seekAll_1 : ck_K := kc_77
abbrev kn_1_seekAll_0 : ck_K := kc_78
abbrev kn_6_allMen : ck_K := kc_79
abbrev kn_1_countBy : ck_K := kc_80
abbrev kn_1_fewestWhispers : ck_K := kc_81
abbrev kn_1_joyOfBest : ck_K := kc_82
abbrev kn_1_leastLoss : ck_K := kc_83
abbrev kn_1_partsAt : ck_K := kc_84
abbrev kn_1_shortSet : ck_K := kc_85
abbrev kn_6_suspectsWith : ck_K := kc_86
abbrev kn_6_isSureWith : ck_K := kc_87
abbrev kn_2_sureMen : ck_K := kc_88
abbrev kn_3_forget : ck_K := kc_89
abbrev kn_5_raise : ck_K := kc_90
abbrev kn_5_wishOf : ck_K := kc_91
abbrev kn_6_actsWith : ck_K := kc_92
abbrev kn_6_factsOf : ck_K := kc_93
abbrev kn_6_hasFact : ck_K := kc_94
abbrev kn_6_hasMan : ck_K := kc_95
abbrev kn_6_hasName : ck_K := kc_96
abbrev kn_6_hasPart : ck_K := kc_97
abbrev kn_6_scenesOf : ck_K := kc_98
abbrev kn_7_takeOneOf_6 : ck_K := kc_99
abbrev kn_7_takeOneOf_8 : ck_K := kc_100
abbrev kn_7_takeOneOf_12 : ck_K := kc_101
abbrev kn_7_readAct : ck_K := kc_102
abbrev kn_7_takeOnce : ck_K := kc_103
abbrev kn_7_readClears : ck_K := kc_104
abbrev kn_7_takeNewName_tp : ck_K := kc_105
abbrev kn_7_takeNewName_tf : ck_K := kc_106
abbrev kn_7_takeNewName_tm : ck_K := kc_107
abbrev kn_7_readFact : ck_K := kc_108
abbrev kn_7_readFoes : ck_K := kc_109
abbrev kn_8_takeNumber : ck_K := kc_110
abbrev kn_7_readLikes : ck_K := kc_111
abbrev kn_7_readMan : ck_K := kc_112
abbrev kn_7_readNeeds : ck_K := kc_113
abbrev kn_7_readNever : ck_K := kc_114
abbrev kn_7_readPart : ck_K := kc_115
abbrev kn_7_readRest : ck_K := kc_116
abbrev kn_7_readScene : ck_K := kc_117
abbrev kn_7_readShows : ck_K := kc_118
abbrev kn_7_readLine : ck_K := kc_119
abbrev kn_8_open : ck_K := kc_120
abbrev kn_9_addStep : ck_K := kc_121
abbrev kn_9_clear_s : ck_K := kc_122
abbrev kn_9_clear_n : ck_K := kc_123
abbrev kn_9_compares : ck_K := kc_124
abbrev kn_9_copyFrom_i : ck_K := kc_125
abbrev kn_9_copyFrom_n : ck_K := kc_126
abbrev kn_9_copyFrom_r : ck_K := kc_127
abbrev kn_9_copyFrom_i1 : ck_K := kc_128
abbrev kn_9_copyFrom_r1 : ck_K := kc_129
abbrev kn_9_holdsFor : ck_K := kc_130
abbrev kn_9_menOfOne : ck_K := kc_131
abbrev kn_9_menOf : ck_K := kc_132
abbrev kn_9_readPlainOne : ck_K := kc_133
abbrev kn_9_readOne_9 : ck_K := kc_134
abbrev kn_9_readAll_8 : ck_K := kc_135
abbrev kn_9_readCond_8 : ck_K := kc_136
abbrev kn_9_readOne_8 : ck_K := kc_137
abbrev kn_9_readAll_7 : ck_K := kc_138
abbrev kn_9_readCond_7 : ck_K := kc_139
abbrev kn_9_readOne_7 : ck_K := kc_140
abbrev kn_9_readAll_6 : ck_K := kc_141
abbrev kn_9_readCond_6 : ck_K := kc_142
abbrev kn_9_readOne_6 : ck_K := kc_143
abbrev kn_9_readAll_5 : ck_K := kc_144
abbrev kn_9_readCond_5 : ck_K := kc_145
abbrev kn_9_readOne_5 : ck_K := kc_146
abbrev kn_9_readAll_4 : ck_K := kc_147
abbrev kn_9_readCond_4 : ck_K := kc_148
abbrev kn_9_readOne_4 : ck_K := kc_149
abbrev kn_9_readAll_3 : ck_K := kc_150
abbrev kn_9_readCond_3 : ck_K := kc_151
abbrev kn_9_readOne_3 : ck_K := kc_152
abbrev kn_9_readAll_2 : ck_K := kc_153
abbrev kn_9_readCond_2 : ck_K := kc_154
abbrev kn_9_readOne_2 : ck_K := kc_155
abbrev kn_9_readAll_1 : ck_K := kc_156
abbrev kn_9_readCond_1 : ck_K := kc_157
abbrev kn_9_readOne_1 : ck_K := kc_158
abbrev kn_9_readAll_0 : ck_K := kc_159
abbrev kn_9_readCond_0 : ck_K := kc_160
abbrev kn_9_read : ck_K := kc_161
abbrev kn_10_hasRoom_4 : ck_K := kc_162
abbrev kn_10_hasRoom_20 : ck_K := kc_163
abbrev kn_11_act : ck_K := kc_164
abbrev kn_11_bestAs : ck_K := kc_165
abbrev kn_11_booked : ck_K := kc_166
abbrev kn_11_bowed : ck_K := kc_167
abbrev kn_11_casts : ck_K := kc_168
abbrev kn_11_count : ck_K := kc_169
abbrev kn_11_end : ck_K := kc_170
abbrev kn_11_fault : ck_K := kc_171
abbrev kn_11_firstWithMost : ck_K := kc_172
abbrev kn_11_favourite : ck_K := kc_173
abbrev kn_11_lacks : ck_K := kc_174
abbrev kn_11_least : ck_K := kc_175
abbrev kn_11_now : ck_K := kc_176
abbrev kn_11_part : ck_K := kc_177
abbrev kn_11_price : ck_K := kc_178
abbrev kn_11_said : ck_K := kc_179
abbrev kn_11_scene : ck_K := kc_180
abbrev kn_11_sentence : ck_K := kc_181
abbrev kn_11_sure : ck_K := kc_182
abbrev kn_11_surely : ck_K := kc_183
abbrev kn_11_suspects : ck_K := kc_184
abbrev kn_11_tells : ck_K := kc_185
abbrev kn_11_wants : ck_K := kc_186
abbrev kn_11_whispers : ck_K := kc_187
abbrev kn_11_why : ck_K := kc_188
abbrev kn_12_factsOf : ck_K := kc_189
abbrev kn_12_isIn_k0 : ck_K := kc_190
abbrev kn_12_isIn_k1 : ck_K := kc_191
abbrev kn_12_isIn_0_1 : ck_K := kc_192
abbrev kn_12_isIn_0_2 : ck_K := kc_193
abbrev kn_12_isIn_0_3 : ck_K := kc_194
abbrev kn_12_isIn_0_5 : ck_K := kc_195
abbrev kn_12_isIn_0_7 : ck_K := kc_196
abbrev kn_12_isIn_0_11 : ck_K := kc_197
abbrev kn_12_isIn_40 : ck_K := kc_198
abbrev kn_12_isIn_x : ck_K := kc_199
abbrev kn_12_partsOf : ck_K := kc_200
abbrev kn_12_act : ck_K := kc_201
abbrev kn_12_bitOf : ck_K := kc_202
abbrev kn_12_areTogether : ck_K := kc_203
abbrev kn_12_back : ck_K := kc_204
abbrev kn_12_bad : ck_K := kc_205
abbrev kn_12_isDigit : ck_K := kc_206
abbrev kn_12_isSmall : ck_K := kc_207
abbrev kn_12_peek : ck_K := kc_208
abbrev kn_12_go : ck_K := kc_209
abbrev kn_12_isSign : ck_K := kc_210
abbrev kn_12_isWord : ck_K := kc_211
abbrev kn_12_bits : ck_K := kc_212
abbrev kn_12_lacking : ck_K := kc_213
abbrev kn_12_off : ck_K := kc_214
abbrev kn_12_counts : ck_K := kc_215
abbrev kn_12_isOver : ck_K := kc_216
abbrev kn_12_whyAlone : ck_K := kc_217
abbrev kn_12_canAlone : ck_K := kc_218
abbrev kn_12_fits : ck_K := kc_219
abbrev kn_12_bestAs : ck_K := kc_220
abbrev kn_12_find_6 : ck_K := kc_221
abbrev kn_12_find_8 : ck_K := kc_222
abbrev kn_12_isName : ck_K := kc_223
abbrev kn_12_looksAt_6 : ck_K := kc_224
abbrev kn_12_looksAt_8 : ck_K := kc_225
abbrev kn_12_castAs : ck_K := kc_226
abbrev kn_12_canRise : ck_K := kc_227
abbrev kn_12_isMan : ck_K := kc_228
abbrev kn_12_canWhisper : ck_K := kc_229
abbrev kn_12_drops : ck_K := kc_230
abbrev kn_12_castNow : ck_K := kc_231
abbrev kn_12_clapsFor : ck_K := kc_232
abbrev kn_12_plays : ck_K := kc_233
abbrev kn_12_rises : ck_K := kc_234
abbrev kn_12_whispers_235 : ck_K := kc_235
abbrev kn_12_whyOf : ck_K := kc_236
abbrev kn_12_sign_3 : ck_K := kc_237
abbrev kn_12_sign_n : ck_K := kc_238
abbrev kn_12_sign_4 : ck_K := kc_239
abbrev kn_12_sign : ck_K := kc_240
abbrev kn_12_taken : ck_K := kc_241
abbrev kn_12_tries : ck_K := kc_242
abbrev kn_12_booked : ck_K := kc_243
abbrev kn_12_isPart : ck_K := kc_244
abbrev kn_12_count : ck_K := kc_245
abbrev kn_12_draw : ck_K := kc_246
abbrev kn_12_end : ck_K := kc_247
abbrev kn_12_fault : ck_K := kc_248
abbrev kn_12_valueOf : ck_K := kc_249
abbrev kn_12_favourite : ck_K := kc_250
abbrev kn_12_fresh : ck_K := kc_251
abbrev kn_12_suspectsBy : ck_K := kc_252
abbrev kn_12_isSure : ck_K := kc_253
abbrev kn_12_isLeaf : ck_K := kc_254
abbrev kn_12_lacks : ck_K := kc_255
abbrev kn_12_leafOf : ck_K := kc_256
abbrev kn_12_takes : ck_K := kc_257
abbrev kn_12_takesName_6 : ck_K := kc_258
abbrev kn_12_takesName_8 : ck_K := kc_259
abbrev kn_12_throwsIf : ck_K := kc_260
abbrev kn_12_man : ck_K := kc_261
abbrev kn_12_now : ck_K := kc_262
abbrev kn_12_part : ck_K := kc_263
abbrev kn_12_price : ck_K := kc_264
abbrev kn_12_wantOf : ck_K := kc_265
abbrev kn_12_prices : ck_K := kc_266
abbrev kn_12_scene : ck_K := kc_267
abbrev kn_12_sure : ck_K := kc_268
abbrev kn_12_suspects : ck_K := kc_269
abbrev kn_12_tells : ck_K := kc_270
abbrev kn_12_wants : ck_K := kc_271
abbrev kn_12_why : ck_K := kc_272
abbrev kn_15_fill_tpe : ck_K := kc_273
abbrev kn_15_fill_tcl : ck_K := kc_274
abbrev kn_15_fill_tnv : ck_K := kc_275
abbrev kn_15_fill_tfo : ck_K := kc_276
abbrev kn_15_fill_tli : ck_K := kc_277
abbrev kn_15_fill_tsp : ck_K := kc_278
abbrev kn_15_fill_tsf : ck_K := kc_279
abbrev kn_15_fill_m : ck_K := kc_280
abbrev kn_15_fill_6 : ck_K := kc_281
abbrev kn_15_fill_8 : ck_K := kc_282
abbrev kn_15_fill_48 : ck_K := kc_283
abbrev kn_15_fill_12 : ck_K := kc_284
abbrev kn_1_castInto : ck_K := kc_285
abbrev kn_2_castUnlessWhy : ck_K := kc_286
abbrev kn_2_sendOff : ck_K := kc_287
abbrev kn_2_endAct : ck_K := kc_288
abbrev kn_2_begin : ck_K := kc_289
abbrev kn_2_copyFrom : ck_K := kc_290
abbrev kn_3_keep : ck_K := kc_291
abbrev kn_3_takeBack : ck_K := kc_292
abbrev kn_5_trade : ck_K := kc_293
abbrev kn_6_clear : ck_K := kc_294
abbrev kn_7_read : ck_K := kc_295
abbrev kn_11_best : ck_K := kc_296
abbrev kn_11_cast : ck_K := kc_297
abbrev kn_11_curtain : ck_K := kc_298
abbrev kn_11_playBest : ck_K := kc_299
abbrev kn_11_playDrawn : ck_K := kc_300
abbrev kn_11_drawn : ck_K := kc_301
abbrev kn_11_drop : ck_K := kc_302
abbrev kn_11_goOnByBest : ck_K := kc_303
abbrev kn_11_goesOn : ck_K := kc_304
abbrev kn_11_image_a : ck_K := kc_305
abbrev kn_11_image_c : ck_K := kc_306
abbrev kn_11_joy : ck_K := kc_307
abbrev kn_11_odds : ck_K := kc_308
abbrev kn_11_prices : ck_K := kc_309
abbrev kn_11_restore_a : ck_K := kc_310
abbrev kn_11_restore_c : ck_K := kc_311
abbrev kn_11_undo : ck_K := kc_312
abbrev kn_11_whisper : ck_K := kc_313
abbrev kn_12_sets : ck_K := kc_314
abbrev kn_12_pairs : ck_K := kc_315
abbrev kn_12_readScene : ck_K := kc_316
abbrev kn_12_line : ck_K := kc_317
abbrev kn_12_castsBy : ck_K := kc_318
abbrev kn_12_best : ck_K := kc_319
abbrev kn_12_castsBest : ck_K := kc_320
abbrev kn_12_bowed : ck_K := kc_321
abbrev kn_12_casts : ck_K := kc_322
abbrev kn_12_draws : ck_K := kc_323
abbrev kn_12_goesOnBy : ck_K := kc_324
abbrev kn_12_goesOn : ck_K := kc_325
abbrev kn_12_joy : ck_K := kc_326
abbrev kn_12_least : ck_K := kc_327
abbrev kn_12_odds : ck_K := kc_328
abbrev kn_12_surely : ck_K := kc_329
abbrev kn_12_whispers_330 : ck_K := kc_330
abbrev kn_0_judge : ck_K := kc_331
abbrev kn_0_read : ck_K := kc_332
abbrev kn_11_book_a : ck_K := kc_333
abbrev kn_11_book_b : ck_K := kc_334
abbrev kn_11_book_c : ck_K := kc_335
abbrev kn_12_keep : ck_K := kc_336
abbrev kn_12_book : ck_K := kc_337
abbrev kn_12_cast : ck_K := kc_338
abbrev kn_12_curtain : ck_K := kc_339
abbrev kn_12_drawn : ck_K := kc_340
abbrev kn_12_drop : ck_K := kc_341
abbrev kn_12_image_a : ck_K := kc_342
abbrev kn_12_image_c : ck_K := kc_343
abbrev kn_12_isSaid : ck_K := kc_344
abbrev kn_12_restore_a : ck_K := kc_345
abbrev kn_12_restore_c : ck_K := kc_346
abbrev kn_12_said : ck_K := kc_347
abbrev kn_12_sentence : ck_K := kc_348
abbrev kn_12_undo : ck_K := kc_349
abbrev kn_12_whisper : ck_K := kc_350
def ck_n0 : Nat := 273
def ck_n1 : Nat := 318
def ck_n2 : Nat := 331
def ck_n3 : Nat := 351
def ck_tabL : List ck_K := [kc_0, kc_1, kc_2, kc_3, kc_4, kc_5, kc_6, kc_7, kc_8, kc_9, kc_10, kc_11, kc_12, kc_13, kc_14, kc_15, kc_16, kc_17, kc_18, kc_19, kc_20, kc_21, kc_22, kc_23, kc_24, kc_25, kc_26, kc_27, kc_28, kc_29, kc_30, kc_31, kc_32, kc_33, kc_34, kc_35, kc_36, kc_37, kc_38, kc_39, kc_40, kc_41, kc_42, kc_43, kc_44, kc_45, kc_46, kc_47, kc_48, kc_49, kc_50, kc_51, kc_52, kc_53, kc_54, kc_55, kc_56, kc_57, kc_58, kc_59, kc_60, kc_61, kc_62, kc_63, kc_64, kc_65, kc_66, kc_67, kc_68, kc_69, kc_70, kc_71, kc_72, kc_73, kc_74, kc_75, kc_76, kc_77, kc_78, kc_79, kc_80, kc_81, kc_82, kc_83, kc_84, kc_85, kc_86, kc_87, kc_88, kc_89, kc_90, kc_91, kc_92, kc_93, kc_94, kc_95, kc_96, kc_97, kc_98, kc_99, kc_100, kc_101, kc_102, kc_103, kc_104, kc_105, kc_106, kc_107, kc_108, kc_109, kc_110, kc_111, kc_112, kc_113, kc_114, kc_115, kc_116, kc_117, kc_118, kc_119, kc_120, kc_121, kc_122, kc_123, kc_124, kc_125, kc_126, kc_127, kc_128, kc_129, kc_130, kc_131, kc_132, kc_133, kc_134, kc_135, kc_136, kc_137, kc_138, kc_139, kc_140, kc_141, kc_142, kc_143, kc_144, kc_145, kc_146, kc_147, kc_148, kc_149, kc_150, kc_151, kc_152, kc_153, kc_154, kc_155, kc_156, kc_157, kc_158, kc_159, kc_160, kc_161, kc_162, kc_163, kc_164, kc_165, kc_166, kc_167, kc_168, kc_169, kc_170, kc_171, kc_172, kc_173, kc_174, kc_175, kc_176, kc_177, kc_178, kc_179, kc_180, kc_181, kc_182, kc_183, kc_184, kc_185, kc_186, kc_187, kc_188, kc_189, kc_190, kc_191, kc_192, kc_193, kc_194, kc_195, kc_196, kc_197, kc_198, kc_199, kc_200, kc_201, kc_202, kc_203, kc_204, kc_205, kc_206, kc_207, kc_208, kc_209, kc_210, kc_211, kc_212, kc_213, kc_214, kc_215, kc_216, kc_217, kc_218, kc_219, kc_220, kc_221, kc_222, kc_223, kc_224, kc_225, kc_226, kc_227, kc_228, kc_229, kc_230, kc_231, kc_232, kc_233, kc_234, kc_235, kc_236, kc_237, kc_238, kc_239, kc_240, kc_241, kc_242, kc_243, kc_244, kc_245, kc_246, kc_247, kc_248, kc_249, kc_250, kc_251, kc_252, kc_253, kc_254, kc_255, kc_256, kc_257, kc_258, kc_259, kc_260, kc_261, kc_262, kc_263, kc_264, kc_265, kc_266, kc_267, kc_268, kc_269, kc_270, kc_271, kc_272, kc_273, kc_274, kc_275, kc_276, kc_277, kc_278, kc_279, kc_280, kc_281, kc_282, kc_283, kc_284, kc_285, kc_286, kc_287, kc_288, kc_289, kc_290, kc_291, kc_292, kc_293, kc_294, kc_295, kc_296, kc_297, kc_298, kc_299, kc_300, kc_301, kc_302, kc_303, kc_304, kc_305, kc_306, kc_307, kc_308, kc_309, kc_310, kc_311, kc_312, kc_313, kc_314, kc_315, kc_316, kc_317, kc_318, kc_319, kc_320, kc_321, kc_322, kc_323, kc_324, kc_325, kc_326, kc_327, kc_328, kc_329, kc_330, kc_331, kc_332, kc_333, kc_334, kc_335, kc_336, kc_337, kc_338, kc_339, kc_340, kc_341, kc_342, kc_343, kc_344, kc_345, kc_346, kc_347, kc_348, kc_349, kc_350]
def ck_tab (j : Nat) : ck_K := ck_tabL.getD j kc_0
def ck_LK0 : List (Nat × ck_En) := [(9, .inl (0, 0, 0)), (15, .inl (0, 1, 3)), (19, .inl (0, 2, 3)), (22, .inl (0, 3, 3)), (25, .inl (0, 4, 1)), (29, .inl (0, 5, 0)), (32, .inl (0, 6, 0)), (35, .inl (0, 7, 0)), (38, .inl (0, 8, 0)), (41, .inl (8, 4, 0)), (46, .inr (.inr (.inr (.inl (0, []))))), (50, .inr (.inr (.inr (.inl (0, [36]))))), (54, .inr (.inr (.inr (.inl (0, [68]))))), (58, .inr (.inr (.inr (.inl (0, [0]))))), (61, .inr (.inr (.inr (.inl (0, [66]))))), (65, .inr (.inr (.inr (.inl (1, [1]))))), (69, .inr (.inr (.inr (.inl (0, [35]))))), (72, .inl (6, 8, 3)), (78, .inl (6, 2, 0)), (80, .inr (.inr (.inr (.inl (0, [44, 45, 46, 47, 48, 49]))))), (84, .inr (.inr (.inr (.inl (0, [57]))))), (87, .inr (.inr (.inr (.inl (0, [65]))))), (90, .inl (6, 6, 3)), (93, .inl (6, 0, 0)), (96, .inr (.inr (.inr (.inl (0, [58, 59, 60, 61, 62, 63]))))), (99, .inl (6, 7, 3)), (102, .inl (6, 1, 0)), (105, .inl (2, 1, 0)), (110, .inr (.inr (.inr (.inl (0, []))))), (114, .inl (2, 0, 0)), (117, .inr (.inr (.inr (.inl (0, [286]))))), (121, .inr (.inr (.inr (.inl (0, [25]))))), (125, .inr (.inr (.inr (.inl (0, [34]))))), (129, .inr (.inr (.inr (.inl (0, [24]))))), (133, .inr (.inr (.inr (.inl (0, [288]))))), (137, .inr (.inr (.inr (.inl (0, [23]))))), (143, .inl (2, 8, 3)), (146, .inr (.inr (.inr (.inl (0, [285])))))]
def ck_LK1 : List (Nat × ck_En) := [(9, .inl (1, 0, 0)), (15, .inl (1, 1, 3)), (19, .inl (1, 2, 0)), (22, .inl (1, 3, 3)), (25, .inl (1, 4, 3)), (28, .inl (1, 5, 3)), (31, .inl (1, 6, 3)), (34, .inl (1, 7, 3)), (37, .inl (1, 8, 3)), (40, .inl (1, 9, 3)), (43, .inr (.inl (1000000))), (44, .inl (1, 10, 0)), (47, .inl (1, 11, 0)), (50, .inl (1, 12, 0)), (53, .inl (6, 2, 0)), (56, .inl (6, 15, 3)), (59, .inr (.inr (.inr (.inr ())))), (65, .inr (.inr (.inr (.inl (0, [14]))))), (71, .inl (2, 0, 0)), (74, .inr (.inr (.inr (.inl (0, [16]))))), (78, .inl (6, 0, 0)), (81, .inr (.inr (.inr (.inl (2, [2]))))), (85, .inr (.inr (.inr (.inl (1, [18]))))), (89, .inr (.inr (.inr (.inl (0, [19]))))), (93, .inr (.inr (.inr (.inl (0, [17]))))), (97, .inl (2, 7, 0)), (100, .inr (.inr (.inr (.inl (0, [20]))))), (104, .inr (.inr (.inr (.inl (0, [21, 22]))))), (107, .inr (.inr (.inr (.inl (0, [13]))))), (111, .inr (.inr (.inr (.inl (1, [273, 274, 275, 276, 277, 278, 279, 280, 281, 282, 283, 284]))))), (117, .inr (.inr (.inr (.inl (0, [32]))))), (120, .inr (.inr (.inr (.inl (0, [15]))))), (123, .inr (.inr (.inr (.inl (1, [70]))))), (128, .inr (.inr (.inr (.inl (0, [4]))))), (131, .inr (.inr (.inr (.inl (0, [6, 7, 8, 9, 10, 11, 12]))))), (135, .inr (.inl (2000000))), (136, .inr (.inr (.inr (.inl (1, [3]))))), (141, .inr (.inr (.inr (.inl (0, [5]))))), (144, .inr (.inr (.inr (.inl (0, [79]))))), (148, .inr (.inr (.inr (.inl (0, [72, 73, 74, 75, 76, 77, 78]))))), (152, .inr (.inr (.inr (.inl (0, [71]))))), (155, .inr (.inr (.inr (.inl (0, [69]))))), (158, .inr (.inr (.inr (.inl (0, [84])))))]
def ck_LK2 : List (Nat × ck_En) := [(9, .inl (2, 0, 0)), (15, .inl (2, 1, 0)), (18, .inl (2, 2, 0)), (21, .inl (2, 3, 0)), (24, .inl (2, 4, 0)), (27, .inl (2, 5, 0)), (30, .inl (2, 6, 0)), (33, .inl (2, 7, 0)), (36, .inl (2, 8, 3)), (40, .inl (2, 9, 3)), (43, .inl (2, 10, 3)), (46, .inl (2, 11, 3)), (49, .inl (2, 12, 3)), (52, .inr (.inr (.inr (.inl (1, [273, 274, 275, 276, 277, 278, 279, 280, 281, 282, 283, 284]))))), (58, .inr (.inr (.inr (.inr ())))), (64, .inl (6, 3, 0)), (69, .inr (.inr (.inr (.inl (0, [17]))))), (73, .inr (.inr (.inr (.inl (0, [27]))))), (77, .inr (.inr (.inr (.inl (0, [26]))))), (81, .inr (.inr (.inr (.inl (2, [2]))))), (85, .inr (.inr (.inr (.inl (0, [28]))))), (88, .inr (.inr (.inr (.inl (0, [14]))))), (92, .inr (.inr (.inr (.inl (0, [16]))))), (95, .inl (6, 14, 3)), (98, .inl (6, 12, 3)), (101, .inl (6, 9, 3)), (104, .inl (6, 5, 1)), (108, .inr (.inr (.inr (.inl (0, [15]))))), (111, .inl (6, 10, 3)), (114, .inr (.inr (.inr (.inl (0, [19]))))), (118, .inl (6, 0, 0)), (121, .inl (6, 15, 3)), (124, .inl (6, 2, 0)), (127, .inr (.inr (.inr (.inl (0, [87]))))), (131, .inr (.inr (.inr (.inl (0, [33]))))), (135, .inl (6, 13, 3)), (138, .inr (.inr (.inr (.inl (0, [29]))))), (142, .inr (.inr (.inr (.inl (0, [30]))))), (145, .inr (.inr (.inr (.inl (0, [21, 22]))))), (148, .inr (.inr (.inr (.inl (0, [32]))))), (151, .inr (.inr (.inr (.inl (0, [287]))))), (154, .inr (.inr (.inr (.inl (1, [31]))))), (159, .inl (6, 4, 0)), (162, .inl (6, 17, 3)), (165, .inl (6, 18, 3)), (168, .inl (6, 19, 3))]
def ck_LK3 : List (Nat × ck_En) := [(11, .inl (3, 0, 3)), (17, .inl (3, 1, 0)), (21, .inl (3, 2, 0)), (25, .inr (.inr (.inr (.inl (0, [290])))))]
def ck_LK4 : List (Nat × ck_En) := []
def ck_LK5 : List (Nat × ck_En) := [(9, .inl (5, 0, 1)), (15, .inl (5, 1, 3)), (19, .inl (5, 2, 3)), (22, .inr (.inr (.inr (.inl (0, [20]))))), (28, .inr (.inr (.inr (.inl (1, [273, 274, 275, 276, 277, 278, 279, 280, 281, 282, 283, 284]))))), (34, .inl (6, 2, 0)), (40, .inr (.inr (.inr (.inl (0, [91]))))), (44, .inr (.inr (.inr (.inl (0, [90]))))), (48, .inl (1, 2, 0)), (51, .inl (1, 3, 3)), (54, .inr (.inr (.inr (.inl (0, [21, 22]))))), (58, .inl (1, 4, 3)), (61, .inr (.inr (.inr (.inl (2, [2]))))), (65, .inl (6, 0, 0))]
def ck_LK6 : List (Nat × ck_En) := [(9, .inl (6, 0, 0)), (15, .inl (6, 1, 0)), (18, .inl (6, 2, 0)), (21, .inl (6, 3, 0)), (24, .inl (6, 4, 0)), (27, .inl (6, 5, 1)), (31, .inl (6, 6, 3)), (35, .inl (6, 7, 3)), (38, .inl (6, 8, 3)), (41, .inl (6, 9, 3)), (45, .inl (6, 10, 3)), (48, .inl (6, 11, 3)), (51, .inl (6, 12, 3)), (54, .inl (6, 13, 3)), (57, .inl (6, 14, 3)), (60, .inl (6, 15, 3)), (63, .inl (6, 16, 3)), (66, .inl (6, 17, 3)), (69, .inl (6, 18, 3)), (72, .inl (6, 19, 3)), (75, .inr (.inr (.inr (.inl (1, [273, 274, 275, 276, 277, 278, 279, 280, 281, 282, 283, 284]))))), (81, .inr (.inr (.inr (.inr ())))), (87, .inr (.inr (.inr (.inl (1, [37, 38, 39, 40, 41, 42, 43]))))), (93, .inr (.inr (.inr (.inl (2, [2]))))), (97, .inr (.inr (.inr (.inl (0, [86]))))), (101, .inr (.inr (.inr (.inl (1, [70])))))]
def ck_LK7 : List (Nat × ck_En) := [(12, .inl (7, 0, 3)), (18, .inr (.inr (.inr (.inl (0, [294]))))), (21, .inl (8, 4, 0)), (27, .inr (.inr (.inr (.inl (0, [119]))))), (31, .inr (.inr (.inr (.inl (0, [36]))))), (35, .inr (.inr (.inr (.inl (0, [68]))))), (39, .inr (.inr (.inr (.inl (0, [66]))))), (43, .inr (.inr (.inr (.inl (0, [115]))))), (46, .inr (.inr (.inr (.inl (0, [108]))))), (49, .inr (.inr (.inr (.inl (0, [104]))))), (52, .inr (.inr (.inr (.inl (0, [112]))))), (55, .inr (.inr (.inr (.inl (0, [102]))))), (58, .inr (.inr (.inr (.inl (0, [117]))))), (61, .inr (.inr (.inr (.inl (0, [118]))))), (64, .inr (.inr (.inr (.inl (0, [113]))))), (67, .inr (.inr (.inr (.inl (0, [111]))))), (70, .inr (.inr (.inr (.inl (0, [114]))))), (73, .inr (.inr (.inr (.inl (0, [109]))))), (76, .inr (.inr (.inr (.inl (0, [116]))))), (79, .inr (.inr (.inr (.inl (0, [35]))))), (82, .inr (.inr (.inr (.inl (0, [57]))))), (85, .inr (.inr (.inr (.inl (0, [0]))))), (88, .inl (8, 8, 2)), (92, .inr (.inr (.inr (.inl (0, [96]))))), (96, .inr (.inr (.inr (.inl (2, [2]))))), (100, .inl (6, 0, 0)), (103, .inr (.inr (.inr (.inl (1, [99, 100, 101]))))), (107, .inl (6, 6, 3)), (111, .inr (.inr (.inr (.inl (0, [105, 106, 107]))))), (115, .inl (6, 9, 3)), (119, .inr (.inr (.inr (.inl (0, [110]))))), (123, .inl (6, 1, 0)), (126, .inl (6, 7, 3)), (129, .inr (.inr (.inr (.inl (0, [58, 59, 60, 61, 62, 63]))))), (133, .inr (.inr (.inr (.inl (0, [44, 45, 46, 47, 48, 49]))))), (136, .inl (6, 11, 3)), (139, .inr (.inr (.inr (.inl (1, [103]))))), (143, .inl (6, 2, 0)), (146, .inl (6, 8, 3)), (149, .inl (6, 12, 3)), (152, .inl (6, 13, 3)), (155, .inl (6, 3, 0)), (158, .inl (6, 4, 0)), (161, .inl (6, 17, 3)), (164, .inr (.inr (.inr (.inl (0, [67]))))), (168, .inl (6, 18, 3)), (171, .inl (6, 19, 3)), (174, .inl (6, 10, 3)), (177, .inr (.inr (.inr (.inl (0, [21, 22]))))), (180, .inl (6, 16, 3)), (183, .inl (6, 14, 3)), (186, .inl (6, 15, 3)), (189, .inl (6, 5, 1))]
def ck_LK8 : List (Nat × ck_En) := [(12, .inl (8, 1, 3)), (18, .inl (8, 2, 0)), (22, .inl (8, 3, 0)), (25, .inl (8, 4, 0)), (28, .inl (8, 5, 0)), (31, .inl (8, 6, 0)), (34, .inl (8, 7, 0)), (37, .inl (8, 8, 2)), (41, .inl (8, 9, 0)), (44, .inl (8, 10, 0)), (53, .inl (8, 0, 3)), (67, .inr (.inr (.inr (.inl (1, [54]))))), (71, .inr (.inr (.inl ()))), (73, .inr (.inr (.inr (.inl (0, [57]))))), (76, .inl (10, 1, 0)), (78, .inr (.inr (.inr (.inl (0, [55]))))), (82, .inr (.inr (.inr (.inl (1, [50]))))), (86, .inr (.inr (.inr (.inl (1, [52]))))), (89, .inr (.inr (.inr (.inl (1, [51]))))), (92, .inr (.inr (.inr (.inl (0, [56]))))), (95, .inr (.inr (.inr (.inl (1, [53]))))), (98, .inr (.inr (.inr (.inl (1, [37, 38, 39, 40, 41, 42, 43]))))), (102, .inr (.inr (.inr (.inl (0, [0]))))), (106, .inr (.inr (.inr (.inl (0, [35]))))), (110, .inr (.inr (.inr (.inl (0, [44, 45, 46, 47, 48, 49]))))), (114, .inr (.inr (.inr (.inl (0, [67]))))), (117, .inr (.inr (.inr (.inl (0, [64])))))]
def ck_LK9 : List (Nat × ck_En) := [(9, .inl (9, 0, 0)), (15, .inl (9, 1, 0)), (18, .inl (9, 2, 3)), (22, .inl (9, 3, 3)), (25, .inl (9, 4, 3)), (28, .inl (9, 5, 3)), (31, .inr (.inr (.inr (.inr ())))), (37, .inr (.inr (.inr (.inl (0, [122, 123]))))), (40, .inr (.inr (.inr (.inl (0, [136, 139, 142, 145, 148, 151, 154, 157, 160]))))), (44, .inr (.inr (.inr (.inl (0, [36]))))), (50, .inl (8, 4, 0)), (53, .inr (.inr (.inr (.inl (0, [35]))))), (57, .inr (.inr (.inr (.inl (0, [135, 138, 141, 144, 147, 150, 153, 156, 159]))))), (60, .inr (.inr (.inr (.inl (0, [64]))))), (64, .inr (.inr (.inr (.inl (0, [57]))))), (67, .inr (.inr (.inr (.inl (0, [121]))))), (71, .inr (.inr (.inr (.inl (0, [134, 137, 140, 143, 146, 149, 152, 155, 158]))))), (74, .inr (.inr (.inr (.inl (0, [66]))))), (78, .inr (.inr (.inr (.inl (0, [67]))))), (81, .inr (.inr (.inr (.inl (0, [68]))))), (84, .inr (.inr (.inr (.inl (0, [133]))))), (87, .inl (6, 7, 3)), (93, .inl (6, 1, 0)), (96, .inr (.inr (.inr (.inl (0, [58, 59, 60, 61, 62, 63]))))), (100, .inl (8, 6, 0)), (103, .inr (.inr (.inr (.inl (0, [110]))))), (107, .inr (.inr (.inr (.inl (0, [79]))))), (110, .inr (.inr (.inr (.inl (0, [131]))))), (114, .inr (.inr (.inr (.inl (0, [33]))))), (119, .inl (2, 6, 0)), (122, .inr (.inr (.inr (.inl (0, [88]))))), (126, .inl (6, 2, 0)), (129, .inr (.inr (.inr (.inl (0, [130]))))), (133, .inl (2, 10, 3)), (136, .inr (.inr (.inr (.inl (2, [2]))))), (140, .inl (6, 12, 3)), (143, .inr (.inr (.inr (.inl (0, [124]))))), (146, .inl (2, 11, 3)), (149, .inl (2, 12, 3))]
def ck_LK10 : List (Nat × ck_En) := [(9, .inl (10, 0, 3)), (15, .inl (10, 1, 0)), (19, .inr (.inr (.inr (.inl (0, [162, 163])))))]
def ck_LK11 : List (Nat × ck_En) := [(10, .inl (11, 0, 3)), (19, .inl (11, 1, 3)), (26, .inl (11, 2, 3)), (33, .inl (11, 3, 3)), (37, .inl (11, 4, 3)), (43, .inl (11, 5, 3)), (50, .inl (11, 6, 3)), (54, .inl (11, 7, 3)), (60, .inl (11, 8, 3)), (67, .inl (11, 9, 3)), (74, .inl (11, 10, 3)), (80, .inl (11, 11, 3)), (84, .inl (11, 12, 3)), (88, .inl (11, 13, 0)), (99, .inl (8, 1, 3)), (103, .inr (.inr (.inr (.inl (0, [162, 163]))))), (109, .inr (.inr (.inr (.inl (0, []))))), (113, .inl (10, 1, 0)), (116, .inr (.inr (.inr (.inl (0, [120]))))), (119, .inr (.inr (.inr (.inl (0, [295]))))), (123, .inl (8, 9, 0)), (126, .inl (8, 10, 0)), (129, .inl (7, 0, 3)), (132, .inr (.inr (.inr (.inl (0, []))))), (136, .inr (.inr (.inr (.inl (0, [289]))))), (139, .inr (.inr (.inr (.inl (0, [122, 123]))))), (142, .inr (.inr (.inr (.inl (0, [89]))))), (145, .inr (.inr (.inr (.inl (0, [97]))))), (148, .inl (6, 9, 3)), (151, .inl (6, 10, 3)), (154, .inl (2, 8, 3)), (157, .inl (2, 9, 3)), (160, .inr (.inr (.inr (.inl (0, [92]))))), (164, .inr (.inr (.inr (.inl (0, [95]))))), (179, .inl (2, 10, 3)), (182, .inl (2, 11, 3)), (185, .inl (2, 12, 3)), (191, .inr (.inr (.inr (.inl (1, [2]))))), (195, .inl (2, 7, 0)), (198, .inl (6, 3, 0)), (201, .inr (.inr (.inr (.inl (0, [98]))))), (204, .inr (.inr (.inr (.inl (0, [16]))))), (207, .inr (.inr (.inr (.inl (0, [93]))))), (210, .inl (6, 4, 0)), (213, .inl (6, 17, 3)), (216, .inl (6, 18, 3)), (219, .inl (6, 19, 3)), (222, .inl (2, 0, 0)), (225, .inl (2, 1, 0)), (228, .inl (2, 2, 0)), (231, .inr (.inr (.inr (.inl (0, [33]))))), (235, .inl (2, 3, 0)), (238, .inl (2, 4, 0)), (241, .inl (2, 5, 0)), (244, .inr (.inr (.inr (.inl (0, [28]))))), (248, .inr (.inr (.inr (.inl (0, [291]))))), (252, .inr (.inr (.inr (.inl (0, [24]))))), (256, .inr (.inr (.inr (.inl (0, [288]))))), (259, .inr (.inr (.inr (.inl (0, [94]))))), (262, .inr (.inr (.inr (.inl (0, [25]))))), (266, .inr (.inr (.inr (.inl (0, [34]))))), (270, .inr (.inr (.inr (.inl (0, [292]))))), (274, .inl (3, 2, 0)), (277, .inr (.inr (.inr (.inl (0, [23]))))), (281, .inr (.inr (.inr (.inl (0, [285]))))), (285, .inr (.inr (.inr (.inl (0, [82]))))), (288, .inr (.inr (.inr (.inl (0, [79]))))), (291, .inr (.inr (.inr (.inl (0, [80]))))), (295, .inr (.inr (.inr (.inl (0, [14]))))), (298, .inr (.inr (.inr (.inl (1, [70]))))), (303, .inl (1, 12, 0)), (306, .inr (.inr (.inr (.inl (0, [85]))))), (310, .inr (.inr (.inr (.inl (0, [83]))))), (313, .inr (.inr (.inr (.inl (0, [81]))))), (316, .inr (.inr (.inr (.inl (0, [86]))))), (319, .inr (.inr (.inr (.inl (0, [88]))))), (323, .inr (.inr (.inr (.inl (0, [87]))))), (326, .inr (.inr (.inr (.inl (0, [293]))))), (330, .inl (5, 0, 1)), (333, .inl (5, 1, 3)), (336, .inl (5, 2, 3)), (339, .inr (.inr (.inr (.inl (0, [303]))))), (342, .inr (.inr (.inr (.inl (0, [172]))))), (346, .inl (6, 2, 0)), (349, .inr (.inr (.inr (.inl (0, [300]))))), (353, .inr (.inr (.inr (.inl (0, [290]))))), (355, .inr (.inr (.inr (.inl (0, [332]))))), (358, .inr (.inr (.inr (.inl (0, [331]))))), (361, .inl (0, 4, 1)), (364, .inl (0, 5, 0)), (367, .inl (0, 6, 0)), (370, .inl (0, 7, 0)), (373, .inl (0, 8, 0)), (376, .inr (.inr (.inr (.inl (0, [161]))))), (377, .inr (.inr (.inr (.inl (0, [125, 126, 127, 128, 129]))))), (380, .inl (9, 0, 0)), (383, .inr (.inr (.inr (.inl (0, [132]))))), (386, .inl (4, 1, 3)), (387, .inl (4, 2, 3)), (388, .inl (4, 3, 3)), (389, .inl (4, 0, 1)), (392, .inl (6, 0, 0)), (395, .inl (6, 1, 0)), (398, .inl (6, 5, 1)), (401, .inr (.inr (.inr (.inl (0, [299]))))), (404, .inr (.inr (.inr (.inl (0, [287]))))), (407, .inr (.inl (1103515245)))]
def ck_LK12 : List (Nat × ck_En) := [(1, .inl (12, 0, 0)), (7, .inl (12, 2, 0)), (10, .inr (.inr (.inr (.inl (0, []))))), (14, .inl (12, 1, 3)), (18, .inl (12, 3, 0)), (21, .inl (12, 4, 0)), (24, .inl (12, 5, 0)), (33, .inl (12, 6, 3)), (37, .inl (12, 7, 3)), (40, .inl (12, 8, 3)), (43, .inl (12, 9, 3)), (47, .inl (12, 10, 3)), (50, .inl (12, 20, 3)), (53, .inl (12, 21, 3)), (56, .inl (12, 23, 3)), (59, .inl (12, 24, 3)), (62, .inl (12, 25, 3)), (65, .inl (12, 32, 3)), (68, .inl (12, 33, 0)), (71, .inl (12, 34, 3)), (74, .inl (12, 35, 3)), (77, .inl (12, 36, 3)), (80, .inl (12, 37, 0)), (83, .inl (12, 42, 3)), (86, .inl (12, 44, 3)), (89, .inl (12, 50, 3)), (93, .inl (12, 51, 3)), (96, .inl (12, 52, 3)), (99, .inl (12, 53, 3)), (102, .inr (.inr (.inl ()))), (104, .inr (.inr (.inl ()))), (106, .inr (.inr (.inl ()))), (108, .inr (.inr (.inl ()))), (110, .inr (.inr (.inl ()))), (112, .inr (.inr (.inl ()))), (114, .inr (.inr (.inl ()))), (116, .inr (.inr (.inl ()))), (118, .inr (.inr (.inl ()))), (120, .inr (.inr (.inl ()))), (122, .inr (.inr (.inl ()))), (124, .inr (.inr (.inl ()))), (126, .inr (.inr (.inl ()))), (128, .inr (.inr (.inl ()))), (130, .inr (.inr (.inl ()))), (132, .inr (.inr (.inl ()))), (134, .inr (.inr (.inl ()))), (136, .inr (.inr (.inl ()))), (138, .inr (.inr (.inl ()))), (140, .inr (.inr (.inl ()))), (142, .inr (.inr (.inl ()))), (144, .inr (.inr (.inl ()))), (146, .inr (.inr (.inl ()))), (148, .inr (.inr (.inl ()))), (150, .inr (.inr (.inl ()))), (152, .inr (.inr (.inl ()))), (154, .inr (.inr (.inl ()))), (156, .inr (.inr (.inr (.inl (0, [208]))))), (160, .inl (12, 12, 0)), (163, .inl (12, 13, 0)), (166, .inl (12, 11, 0)), (169, .inr (.inr (.inr (.inl (1, [207]))))), (173, .inr (.inr (.inr (.inl (1, [206]))))), (176, .inl (12, 14, 0)), (179, .inl (12, 17, 2)), (183, .inl (12, 15, 0)), (186, .inl (12, 16, 0)), (189, .inr (.inr (.inr (.inl (0, [210]))))), (192, .inr (.inr (.inr (.inl (0, [205]))))), (195, .inr (.inr (.inr (.inl (0, [209]))))), (198, .inr (.inr (.inr (.inl (1, [190, 191, 192, 193, 194, 195, 196, 197, 198, 199]))))), (202, .inl (12, 18, 0)), (205, .inr (.inr (.inr (.inl (0, [223]))))), (209, .inr (.inr (.inr (.inl (0, [221, 222]))))), (213, .inr (.inr (.inr (.inl (0, [224, 225]))))), (217, .inr (.inr (.inr (.inl (1, [202]))))), (220, .inr (.inr (.inr (.inl (0, [211]))))), (224, .inr (.inr (.inr (.inl (0, [251]))))), (227, .inr (.inr (.inr (.inl (0, [257]))))), (230, .inr (.inr (.inr (.inl (0, [316]))))), (233, .inr (.inr (.inr (.inl (0, [314]))))), (236, .inr (.inr (.inr (.inl (0, [315]))))), (239, .inr (.inr (.inr (.inl (0, [258, 259]))))), (242, .inr (.inr (.inr (.inl (0, [241]))))), (245, .inl (12, 19, 0)), (248, .inr (.inr (.inr (.inl (0, [317]))))), (251, .inr (.inr (.inr (.inl (0, [237, 238, 239, 240]))))), (254, .inl (12, 22, 0)), (257, .inr (.inr (.inr (.inl (0, [244]))))), (260, .inr (.inr (.inr (.inl (0, [200]))))), (264, .inr (.inr (.inr (.inl (0, [226]))))), (267, .inr (.inr (.inr (.inl (0, [228]))))), (270, .inr (.inr (.inr (.inl (0, [260]))))), (274, .inr (.inr (.inr (.inl (0, [189]))))), (277, .inr (.inr (.inr (.inl (0, [231]))))), (280, .inr (.inr (.inr (.inl (0, [216]))))), (283, .inr (.inr (.inr (.inl (0, [217]))))), (286, .inr (.inr (.inr (.inl (0, [213]))))), (289, .inr (.inr (.inr (.inl (0, [203]))))), (292, .inr (.inr (.inr (.inl (0, [236]))))), (295, .inr (.inr (.inr (.inl (0, [336]))))), (298, .inr (.inr (.inr (.inl (1, [214]))))), (301, .inr (.inr (.inr (.inl (0, [232]))))), (304, .inr (.inr (.inr (.inl (0, [233]))))), (308, .inr (.inr (.inr (.inl (0, [230]))))), (311, .inr (.inr (.inr (.inl (0, [227]))))), (314, .inr (.inr (.inr (.inl (0, [234]))))), (317, .inr (.inr (.inr (.inl (0, [229]))))), (320, .inr (.inr (.inr (.inl (0, [235]))))), (323, .inr (.inr (.inr (.inl (0, [218]))))), (326, .inr (.inr (.inr (.inl (1, [212]))))), (329, .inl (12, 26, 0)), (332, .inl (12, 31, 0)), (335, .inl (12, 28, 0)), (338, .inl (12, 29, 0)), (341, .inl (12, 30, 0)), (344, .inl (12, 27, 0)), (347, .inr (.inr (.inr (.inl (0, [215]))))), (350, .inr (.inr (.inr (.inl (0, [219]))))), (354, .inr (.inr (.inr (.inl (0, [318]))))), (358, .inr (.inr (.inr (.inl (0, [252]))))), (361, .inr (.inr (.inr (.inl (0, [253]))))), (364, .inr (.inr (.inr (.inl (0, [265]))))), (367, .inl (12, 38, 0)), (370, .inr (.inr (.inr (.inl (0, [242]))))), (373, .inr (.inr (.inr (.inl (0, [320]))))), (376, .inl (12, 39, 0)), (379, .inr (.inr (.inr (.inl (0, [204]))))), (382, .inr (.inr (.inr (.inl (0, [324]))))), (385, .inr (.inr (.inr (.inl (0, [249]))))), (388, .inl (12, 40, 0)), (391, .inr (.inl (1103515245))), (392, .inr (.inr (.inr (.inl (0, [246]))))), (395, .inr (.inr (.inr (.inl (0, [323]))))), (398, .inl (12, 41, 0)), (401, .inr (.inr (.inr (.inl (0, []))))), (404, .inr (.inr (.inr (.inl (0, []))))), (407, .inl (12, 43, 1)), (411, .inl (12, 45, 0)), (414, .inl (12, 47, 0)), (417, .inr (.inr (.inr (.inl (0, []))))), (421, .inl (12, 48, 0)), (424, .inr (.inr (.inr (.inl (0, [256]))))), (427, .inl (12, 46, 0)), (430, .inl (12, 49, 1)), (433, .inr (.inr (.inr (.inl (0, []))))), (436, .inr (.inr (.inr (.inl (0, []))))), (439, .inr (.inr (.inr (.inl (0, []))))), (442, .inr (.inr (.inr (.inl (0, []))))), (445, .inr (.inr (.inr (.inl (0, [254]))))), (449, .inr (.inr (.inr (.inl (0, [344])))))]
def ck_LK13 : List (Nat × ck_En) := [(265, .inr (.inl (1431655765))), (266, .inr (.inl (858993459))), (267, .inr (.inl (252645135)))]
def ck_LK14 : List (Nat × ck_En) := []
def ck_LK15 : List (Nat × ck_En) := []
def ck_LKT : List (List (Nat × ck_En)) := [ck_LK0, ck_LK1, ck_LK2, ck_LK3, ck_LK4, ck_LK5, ck_LK6, ck_LK7, ck_LK8, ck_LK9, ck_LK10, ck_LK11, ck_LK12, ck_LK13, ck_LK14, ck_LK15]
def ck_LK (o ix : Nat) : Option ck_En := match ck_LKT[o]? with
  | some t => (t.find? (fun q => q.1 == ix)).map (fun q => q.2)
  | none => none
def ck_hl : List (Nat × Nat × Nat × ck_K) := [(0, 46, 0, kh_0_readLine), (0, 110, 0, kh_0_whyWrong), (11, 109, 0, kh_10_append), (11, 132, 0, kh_6_copyFrom_ip), (11, 132, 0, kh_6_copyFrom_jp), (11, 132, 0, kh_6_copyFrom_pi), (11, 132, 0, kh_6_copyFrom_pj), (11, 132, 0, kh_6_copyFrom_pt), (12, 10, 0, kh_12_four), (12, 401, 0, kh_12_bookLine), (12, 404, 0, kh_12_does), (12, 417, 0, kh_12_code), (12, 433, 0, kh_12_nots), (12, 436, 0, kh_12_joins), (12, 439, 0, kh_12_behind), (12, 442, 0, kh_12_operand)]
