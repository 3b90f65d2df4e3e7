theorem nw_CornerTown_Crossings_38 : Cond.methodLinkNest RX0 38 yX11_lowestOf "CornerTown" ∈ gNW := List.mem_filter.mpr ⟨(tk_5 _ (List.mem_of_getElem? (i := 23) rfl)), rfl⟩
theorem nw_CornerTown_Crossings_42 : Cond.methodLinkNest RX0 42 yX11_within "CornerTown" ∈ gNW := List.mem_filter.mpr ⟨(tk_4 _ (List.mem_of_getElem? (i := 207) rfl)), rfl⟩
theorem nw_CornerTown_Crossings_57 : Cond.methodLinkNest RX0 57 yX11_bitOf "CornerTown" ∈ gNW := List.mem_filter.mpr ⟨(tk_4 _ (List.mem_of_getElem? (i := 211) rfl)), rfl⟩
theorem nw_CornerTown_DoorSearch_76 : Cond.methodLinkNest RX1 76 yX11_bitOf "CornerTown" ∈ gNW := List.mem_filter.mpr ⟨(tk_5 _ (List.mem_of_getElem? (i := 106) rfl)), rfl⟩
theorem nw_CornerTown_DoorSearch_87 : Cond.methodLinkNest RX1 87 yX11_within "CornerTown" ∈ gNW := List.mem_filter.mpr ⟨(tk_5 _ (List.mem_of_getElem? (i := 122) rfl)), rfl⟩
theorem nw_CornerTown_Floods_41 : Cond.methodLinkNest RX2 41 yX11_within "CornerTown" ∈ gNW := List.mem_filter.mpr ⟨(tk_6 _ (List.mem_of_getElem? (i := 46) rfl)), rfl⟩
theorem nw_CornerTown_Floods_91 : Cond.methodLinkNest RX2 91 yX11_bitOf "CornerTown" ∈ gNW := List.mem_filter.mpr ⟨(tk_6 _ (List.mem_of_getElem? (i := 31) rfl)), rfl⟩
theorem nw_CornerTown_News_46 : Cond.methodLinkNest RX4 46 yX11_within "CornerTown" ∈ gNW := List.mem_filter.mpr ⟨(tk_5 _ (List.mem_of_getElem? (i := 149) rfl)), rfl⟩
theorem nw_CornerTown_News_60 : Cond.methodLinkNest RX4 60 yX11_bitOf "CornerTown" ∈ gNW := List.mem_filter.mpr ⟨(tk_5 _ (List.mem_of_getElem? (i := 148) rfl)), rfl⟩
theorem nw_CornerTown_Rounds_78 : Cond.methodLinkNest RX8 78 yX11_bitOf "CornerTown" ∈ gNW := List.mem_filter.mpr ⟨(tk_5 _ (List.mem_of_getElem? (i := 195) rfl)), rfl⟩
theorem nw_CornerTown_Rounds_108 : Cond.methodLinkNest RX8 108 yX11_within "CornerTown" ∈ gNW := List.mem_filter.mpr ⟨(tk_5 _ (List.mem_of_getElem? (i := 227) rfl)), rfl⟩
theorem nw_CornerTown_Streets_66 : Cond.methodLinkNest RX9 66 yX11_bitOf "CornerTown" ∈ gNW := List.mem_filter.mpr ⟨(tk_4 _ (List.mem_of_getElem? (i := 105) rfl)), rfl⟩
theorem nw_CornerTown_Streets_126 : Cond.methodLinkNest RX9 126 yX11_within "CornerTown" ∈ gNW := List.mem_filter.mpr ⟨(tk_4 _ (List.mem_of_getElem? (i := 227) rfl)), rfl⟩
theorem nw_CornerTown_Town_80 : Cond.methodLinkNest RX10 80 yX11_bitOf "CornerTown" ∈ gNW := List.mem_filter.mpr ⟨(tk_4 _ (List.mem_of_getElem? (i := 104) rfl)), rfl⟩
theorem nw_CornerTown_Town_84 : Cond.methodLinkNest RX10 84 yX11_within "CornerTown" ∈ gNW := List.mem_filter.mpr ⟨(tk_3 _ (List.mem_of_getElem? (i := 25) rfl)), rfl⟩
def gM0 : gM := (objectInit, ⟨#[0xb1]⟩, 1, none)
/-- 0: CornerTown$Crossings.<init>(LCornerTown$Town;)V -/
def mt_0 : gM := (yX0_init, cX0_init, 2, none)
/-- 1: CornerTown$Crossings.reach([III)I -/
def mt_1 : gM := (yX0_reach, cX0_reach, 8, (some .int))
/-- 2: CornerTown$Crossings.putPair([I[III)V -/
def mt_2 : gM := (yX0_putPair, cX0_putPair, 6, none)
/-- 3: CornerTown$Crossings.countWays([III)V -/
def mt_3 : gM := (yX0_countWays, cX0_countWays, 7, none)
/-- 4: CornerTown$Crossings.spread([III)I -/
def mt_4 : gM := (yX0_spread, cX0_spread, 8, (some .int))
/-- 5: CornerTown$Crossings.findParts([II)I -/
def mt_5 : gM := (yX0_findParts, cX0_findParts, 6, (some .int))
/-- 6: CornerTown$Crossings.partOf(I)I -/
def mt_6 : gM := (yX0_partOf, cX0_partOf, 4, (some .int))
/-- 7: CornerTown$Crossings.partAt(I)I -/
def mt_7 : gM := (yX0_partAt, cX0_partAt, 2, (some .int))
/-- 8: CornerTown$Crossings.meets([IIII)Z -/
def mt_8 : gM := (yX0_meets, cX0_meets, 4, (some .boolean))
/-- 9: CornerTown$Crossings.holdersBetween([III)I -/
def mt_9 : gM := (yX0_holdersBetween, cX0_holdersBetween, 6, (some .int))
/-- 10: CornerTown$Crossings.findCut([III)V -/
def mt_10 : gM := (yX0_findCut, cX0_findCut, 9, none)
/-- 11: CornerTown$DoorSearch.<init>(LCornerTown$Town;)V -/
def mt_11 : gM := (yX1_init, cX1_init, 2, none)
/-- 12: CornerTown$DoorSearch.pickedHouse(I)I -/
def mt_12 : gM := (yX1_pickedHouse, cX1_pickedHouse, 2, (some .int))
/-- 13: CornerTown$DoorSearch.search([I[I)V -/
def mt_13 : gM := (yX1_search, cX1_search, 4, none)
/-- 14: CornerTown$DoorSearch.listPairs([I[I)V -/
def mt_14 : gM := (yX1_listPairs, cX1_listPairs, 6, none)
/-- 15: CornerTown$DoorSearch.tryOne([I[I)V -/
def mt_15 : gM := (yX1_tryOne, cX1_tryOne, 4, none)
/-- 16: CornerTown$DoorSearch.tryTwo([I[II)V -/
def mt_16 : gM := (yX1_tryTwo, cX1_tryTwo, 5, none)
/-- 17: CornerTown$DoorSearch.keepFirst(III)V -/
def mt_17 : gM := (yX1_keepFirst, cX1_keepFirst, 4, none)
/-- 18: CornerTown$DoorSearch.allMeet()Z -/
def mt_18 : gM := (yX1_allMeet, cX1_allMeet, 1, (some .boolean))
/-- 19: CornerTown$DoorSearch.allAre(LCornerTown$Pairs;I)Z -/
def mt_19 : gM := (yX1_allAre, cX1_allAre, 5, (some .boolean))
/-- 20: CornerTown$Floods.<init>(LCornerTown$Town;LCornerTown$Streets;LCornerTown$Crossings;)V -/
def mt_20 : gM := (yX2_init, cX2_init, 4, none)
/-- 21: CornerTown$Floods.tell(II)I -/
def mt_21 : gM := (yX2_tell, cX2_tell, 3, (some .int))
/-- 22: CornerTown$Floods.rise(II)I -/
def mt_22 : gM := (yX2_rise, cX2_rise, 7, (some .int))
/-- 23: CornerTown$Floods.drawWater()I -/
def mt_23 : gM := (yX2_drawWater, cX2_drawWater, 3, (some .int))
/-- 24: CornerTown$Law.<init>([I[I[IIZ)V -/
def mt_24 : gM := (yX3_init, cX3_init, 8, none)
/-- 25: CornerTown$Law.stepAt(I)I -/
def mt_25 : gM := (yX3_stepAt, cX3_stepAt, 2, (some .int))
/-- 26: CornerTown$Law.startOf(I)I -/
def mt_26 : gM := (yX3_startOf, cX3_startOf, 2, (some .int))
/-- 27: CornerTown$Law.endOf(I)I -/
def mt_27 : gM := (yX3_endOf, cX3_endOf, 2, (some .int))
/-- 28: CornerTown$Law.isTakes(I)Z -/
def mt_28 : gM := (yX3_isTakes, cX3_isTakes, 2, (some .boolean))
/-- 29: CornerTown$Law.isTested(I)Z -/
def mt_29 : gM := (yX3_isTested, cX3_isTested, 2, (some .boolean))
/-- 30: CornerTown$News.<init>(LCornerTown$Town;)V -/
def mt_30 : gM := (yX4_init, cX4_init, 2, none)
/-- 31: CornerTown$News.firstDay([III)I -/
def mt_31 : gM := (yX4_firstDay, cX4_firstDay, 4, (some .int))
/-- 32: CornerTown$News.goRound([II)V -/
def mt_32 : gM := (yX4_goRound, cX4_goRound, 8, none)
/-- 33: CornerTown$News.wrongLogs([II)I -/
def mt_33 : gM := (yX4_wrongLogs, cX4_wrongLogs, 6, (some .int))
/-- 34: CornerTown$News.seekDoor([I[II)V -/
def mt_34 : gM := (yX4_seekDoor, cX4_seekDoor, 6, none)
/-- 35: CornerTown$News.tryDoor(III)V -/
def mt_35 : gM := (yX4_tryDoor, cX4_tryDoor, 4, none)
/-- 36: CornerTown$Pairs.<init>(I)V -/
def mt_36 : gM := (yX5_init, cX5_init, 2, none)
/-- 37: CornerTown$Pairs.isFull()Z -/
def mt_37 : gM := (yX5_isFull, cX5_isFull, 1, (some .boolean))
/-- 38: CornerTown$Pairs.keep(II)V -/
def mt_38 : gM := (yX5_keep, cX5_keep, 3, none)
/-- 39: CornerTown$Pairs.becomeLike(LCornerTown$Pairs;)V -/
def mt_39 : gM := (yX5_becomeLike, cX5_becomeLike, 3, none)
/-- 40: CornerTown$Reader.<init>([I)V -/
def mt_40 : gM := (yX6_init, cX6_init, 2, none)
/-- 41: CornerTown$Reader.read(I)LCornerTown$Law; -/
def mt_41 : gM := (yX6_read, cX6_read, 3, (some (.object "CornerTown$Law")))
/-- 42: CornerTown$Reader.begin(I)V -/
def mt_42 : gM := (yX6_begin, cX6_begin, 2, none)
/-- 43: CornerTown$Reader.faultPlace()I -/
def mt_43 : gM := (yX6_faultPlace, cX6_faultPlace, 1, (some .int))
/-- 44: CornerTown$Reader.kindOf(I)I -/
def mt_44 : gM := (yX6_kindOf, cX6_kindOf, 1, (some .int))
/-- 45: CornerTown$Reader.goOn()V -/
def mt_45 : gM := (yX6_goOn, cX6_goOn, 1, none)
/-- 46: CornerTown$Reader.isWord(Ljava/lang/String;)Z -/
def mt_46 : gM := (yX6_isWord, cX6_isWord, 3, (some .boolean))
/-- 47: CornerTown$Reader.isSign(C)Z -/
def mt_47 : gM := (yX6_isSign, cX6_isSign, 2, (some .boolean))
/-- 48: CornerTown$Reader.emit(II)I -/
def mt_48 : gM := (yX6_emit, cX6_emit, 3, (some .int))
/-- 49: CornerTown$Reader.leadHere(II)V -/
def mt_49 : gM := (yX6_leadHere, cX6_leadHere, 3, none)
/-- 50: CornerTown$Reader.readClause(I)Z -/
def mt_50 : gM := (yX6_readClause, cX6_readClause, 3, (some .boolean))
/-- 51: CornerTown$Reader.readTest(I)Z -/
def mt_51 : gM := (yX6_readTest, cX6_readTest, 4, (some .boolean))
/-- 52: CornerTown$Reader.readBoth(I)Z -/
def mt_52 : gM := (yX6_readBoth, cX6_readBoth, 4, (some .boolean))
/-- 53: CornerTown$Reader.readPlain(I)Z -/
def mt_53 : gM := (yX6_readPlain, cX6_readPlain, 4, (some .boolean))
/-- 54: CornerTown$Reader.readBracketed(I)Z -/
def mt_54 : gM := (yX6_readBracketed, cX6_readBracketed, 2, (some .boolean))
/-- 55: CornerTown$Reader.readComparison(I)Z -/
def mt_55 : gM := (yX6_readComparison, cX6_readComparison, 3, (some .boolean))
/-- 56: CornerTown$Reader.readSum(I)Z -/
def mt_56 : gM := (yX6_readSum, cX6_readSum, 4, (some .boolean))
/-- 57: CornerTown$Reader.readTerm(I)Z -/
def mt_57 : gM := (yX6_readTerm, cX6_readTerm, 4, (some .boolean))
/-- 58: CornerTown$Reader.readPart(I)Z -/
def mt_58 : gM := (yX6_readPart, cX6_readPart, 4, (some .boolean))
/-- 59: CornerTown$Reader.readInner(I)Z -/
def mt_59 : gM := (yX6_readInner, cX6_readInner, 2, (some .boolean))
/-- 60: CornerTown$Reader.numberHere()I -/
def mt_60 : gM := (yX6_numberHere, cX6_numberHere, 3, (some .int))
/-- 61: CornerTown$Reader.wordHere()I -/
def mt_61 : gM := (yX6_wordHere, cX6_wordHere, 1, (some .int))
/-- 62: CornerTown$Reckoner.<init>()V -/
def mt_62 : gM := (yX7_init, cX7_init, 1, none)
/-- 63: CornerTown$Reckoner.tellVisit(LCornerTown$Town;IIII)V -/
def mt_63 : gM := (yX7_tellVisit, cX7_tellVisit, 6, none)
/-- 64: CornerTown$Reckoner.bars(LCornerTown$Law;)Z -/
def mt_64 : gM := (yX7_bars, cX7_bars, 3, (some .boolean))
/-- 65: CornerTown$Reckoner.takes(LCornerTown$Law;)I -/
def mt_65 : gM := (yX7_takes, cX7_takes, 3, (some .int))
/-- 66: CornerTown$Reckoner.holds(LCornerTown$Law;I)Z -/
def mt_66 : gM := (yX7_holds, cX7_holds, 8, (some .boolean))
/-- 67: CornerTown$Reckoner.push(J)V -/
def mt_67 : gM := (yX7_push, cX7_push, 3, none)
/-- 68: CornerTown$Reckoner.turn()V -/
def mt_68 : gM := (yX7_turn, cX7_turn, 1, none)
/-- 69: CornerTown$Reckoner.decides(I)Z -/
def mt_69 : gM := (yX7_decides, cX7_decides, 2, (some .boolean))
/-- 70: CornerTown$Reckoner.join(I)V -/
def mt_70 : gM := (yX7_join, cX7_join, 8, none)
/-- 71: CornerTown$Rounds.<init>(LCornerTown$Town;LCornerTown$Streets;)V -/
def mt_71 : gM := (yX8_init, cX8_init, 3, none)
/-- 72: CornerTown$Rounds.stopAt(I)I -/
def mt_72 : gM := (yX8_stopAt, cX8_stopAt, 2, (some .int))
/-- 73: CornerTown$Rounds.plan(II)Z -/
def mt_73 : gM := (yX8_plan, cX8_plan, 3, (some .boolean))
/-- 74: CornerTown$Rounds.isRound(II)Z -/
def mt_74 : gM := (yX8_isRound, cX8_isRound, 5, (some .boolean))
/-- 75: CornerTown$Rounds.listErrands(II)V -/
def mt_75 : gM := (yX8_listErrands, cX8_listErrands, 5, none)
/-- 76: CornerTown$Rounds.timeBetween(II)I -/
def mt_76 : gM := (yX8_timeBetween, cX8_timeBetween, 4, (some .int))
/-- 77: CornerTown$Rounds.leastAt(II)I -/
def mt_77 : gM := (yX8_leastAt, cX8_leastAt, 4, (some .int))
/-- 78: CornerTown$Rounds.fillLeast()V -/
def mt_78 : gM := (yX8_fillLeast, cX8_fillLeast, 4, none)
/-- 79: CornerTown$Rounds.leastFrom(II)I -/
def mt_79 : gM := (yX8_leastFrom, cX8_leastFrom, 5, (some .int))
/-- 80: CornerTown$Rounds.walk()V -/
def mt_80 : gM := (yX8_walk, cX8_walk, 5, none)
/-- 81: CornerTown$Rounds.nextErrand(II)I -/
def mt_81 : gM := (yX8_nextErrand, cX8_nextErrand, 5, (some .int))
/-- 82: CornerTown$Streets.<init>(LCornerTown$Town;)V -/
def mt_82 : gM := (yX9_init, cX9_init, 2, none)
/-- 83: CornerTown$Streets.lawBars(IIII)Z -/
def mt_83 : gM := (yX9_lawBars, cX9_lawBars, 6, (some .boolean))
/-- 84: CornerTown$Streets.isBarred(II)Z -/
def mt_84 : gM := (yX9_isBarred, cX9_isBarred, 3, (some .boolean))
/-- 85: CornerTown$Streets.timeOf(II)I -/
def mt_85 : gM := (yX9_timeOf, cX9_timeOf, 4, (some .int))
/-- 86: CornerTown$Streets.isOpen(III)Z -/
def mt_86 : gM := (yX9_isOpen, cX9_isOpen, 5, (some .boolean))
/-- 87: CornerTown$Streets.openRows()[I -/
def mt_87 : gM := (yX9_openRows, cX9_openRows, 1, (some (.array .int)))
/-- 88: CornerTown$Streets.fillOpen([II)V -/
def mt_88 : gM := (yX9_fillOpen, cX9_fillOpen, 5, none)
/-- 89: CornerTown$Streets.rowsByDoor()[I -/
def mt_89 : gM := (yX9_rowsByDoor, cX9_rowsByDoor, 2, (some (.array .int)))
/-- 90: CornerTown$Streets.rowByDoor(I)I -/
def mt_90 : gM := (yX9_rowByDoor, cX9_rowByDoor, 5, (some .int))
/-- 91: CornerTown$Streets.measure([I)V -/
def mt_91 : gM := (yX9_measure, cX9_measure, 5, none)
/-- 92: CornerTown$Streets.shortenBy(I)V -/
def mt_92 : gM := (yX9_shortenBy, cX9_shortenBy, 6, none)
/-- 93: CornerTown$Streets.cell(II)I -/
def mt_93 : gM := (yX9_cell, cX9_cell, 2, (some .int))
/-- 94: CornerTown$Streets.shortestTime(II)I -/
def mt_94 : gM := (yX9_shortestTime, cX9_shortestTime, 4, (some .int))
/-- 95: CornerTown$Streets.shortestVisits(II)I -/
def mt_95 : gM := (yX9_shortestVisits, cX9_shortestVisits, 4, (some .int))
/-- 96: CornerTown$Streets.stopOnWay(III)I -/
def mt_96 : gM := (yX9_stopOnWay, cX9_stopOnWay, 6, (some .int))
/-- 97: CornerTown$Streets.nextOnWay(II)I -/
def mt_97 : gM := (yX9_nextOnWay, cX9_nextOnWay, 5, (some .int))
/-- 98: CornerTown$Streets.meetingPlace(II)I -/
def mt_98 : gM := (yX9_meetingPlace, cX9_meetingPlace, 11, (some .int))
/-- 99: CornerTown$Town.<init>()V -/
def mt_99 : gM := (yX10_init, cX10_init, 1, none)
/-- 100: CornerTown$Town.has(I)Z -/
def mt_100 : gM := (yX10_has, cX10_has, 2, (some .boolean))
/-- 101: CornerTown$Town.areHouses(I)Z -/
def mt_101 : gM := (yX10_areHouses, cX10_areHouses, 2, (some .boolean))
/-- 102: CornerTown$Town.hasTwo(II)Z -/
def mt_102 : gM := (yX10_hasTwo, cX10_hasTwo, 3, (some .boolean))
/-- 103: CornerTown$Town.bothStand(II)Z -/
def mt_103 : gM := (yX10_bothStand, cX10_bothStand, 3, (some .boolean))
/-- 104: CornerTown$Town.lawInForce()LCornerTown$Law; -/
def mt_104 : gM := (yX10_lawInForce, cX10_lawInForce, 1, (some (.object "CornerTown$Law")))
/-- 105: CornerTown$Town.whyNoHouse(IIIII)I -/
def mt_105 : gM := (yX10_whyNoHouse, cX10_whyNoHouse, 8, (some .int))
/-- 106: CornerTown$Town.build(IIIII)I -/
def mt_106 : gM := (yX10_build, cX10_build, 7, (some .int))
/-- 107: CornerTown$Town.lies(III)Z -/
def mt_107 : gM := (yX10_lies, cX10_lies, 4, (some .boolean))
/-- 108: CornerTown$Town.meeting(IIIII)I -/
def mt_108 : gM := (yX10_meeting, cX10_meeting, 8, (some .int))
/-- 109: CornerTown$Town.touching(II)I -/
def mt_109 : gM := (yX10_touching, cX10_touching, 3, (some .int))
/-- 110: CornerTown$Town.suits(IIIIII)Z -/
def mt_110 : gM := (yX10_suits, cX10_suits, 11, (some .boolean))
/-- 111: CornerTown$Town.turnDoor(II)V -/
def mt_111 : gM := (yX10_turnDoor, cX10_turnDoor, 3, none)
/-- 112: CornerTown$Town.becomeLike(LCornerTown$Town;)V -/
def mt_112 : gM := (yX10_becomeLike, cX10_becomeLike, 3, none)
/-- 113: CornerTown.<init>()V -/
def mt_113 : gM := (yX11_init, cX11_init, 1, none)
/-- 114: CornerTown.house(IIIII)I -/
def mt_114 : gM := (yX11_house, cX11_house, 7, (some .int))
/-- 115: CornerTown.of(II)I -/
def mt_115 : gM := (yX11_of, cX11_of, 3, (some .int))
/-- 116: CornerTown.rank(II)I -/
def mt_116 : gM := (yX11_rank, cX11_rank, 4, (some .int))
/-- 117: CornerTown.stand(II)I -/
def mt_117 : gM := (yX11_stand, cX11_stand, 4, (some .int))
/-- 118: CornerTown.at(II)I -/
def mt_118 : gM := (yX11_at, cX11_at, 4, (some .int))
/-- 119: CornerTown.terms(II)I -/
def mt_119 : gM := (yX11_terms, cX11_terms, 4, (some .int))
/-- 120: CornerTown.door(II)I -/
def mt_120 : gM := (yX11_door, cX11_door, 3, (some .int))
/-- 121: CornerTown.wall(II)I -/
def mt_121 : gM := (yX11_wall, cX11_wall, 3, (some .int))
/-- 122: CornerTown.feed(IIIII)I -/
def mt_122 : gM := (yX11_feed, cX11_feed, 6, (some .int))
/-- 123: CornerTown.end(I)I -/
def mt_123 : gM := (yX11_end, cX11_end, 2, (some .int))
/-- 124: CornerTown.row()I -/
def mt_124 : gM := (yX11_row, cX11_row, 5, (some .int))
/-- 125: CornerTown.ruin()I -/
def mt_125 : gM := (yX11_ruin, cX11_ruin, 1, (some .int))
/-- 126: CornerTown.law()I -/
def mt_126 : gM := (yX11_law, cX11_law, 3, (some .int))
/-- 127: CornerTown.fault()I -/
def mt_127 : gM := (yX11_fault, cX11_fault, 1, (some .int))
/-- 128: CornerTown.force(I)I -/
def mt_128 : gM := (yX11_force, cX11_force, 3, (some .int))
/-- 129: CornerTown.touch(II)I -/
def mt_129 : gM := (yX11_touch, cX11_touch, 3, (some .int))
/-- 130: CornerTown.visit(III)I -/
def mt_130 : gM := (yX11_visit, cX11_visit, 4, (some .int))
/-- 131: CornerTown.visits(I)I -/
def mt_131 : gM := (yX11_visits, cX11_visits, 2, (some .int))
/-- 132: CornerTown.comes(III)I -/
def mt_132 : gM := (yX11_comes, cX11_comes, 4, (some .int))
/-- 133: CornerTown.way(III)I -/
def mt_133 : gM := (yX11_way, cX11_way, 4, (some .int))
/-- 134: CornerTown.parts(I)I -/
def mt_134 : gM := (yX11_parts, cX11_parts, 3, (some .int))
/-- 135: CornerTown.holders(II)I -/
def mt_135 : gM := (yX11_holders, cX11_holders, 3, (some .int))
/-- 136: CornerTown.cut(III)I -/
def mt_136 : gM := (yX11_cut, cX11_cut, 4, (some .int))
/-- 137: CornerTown.wish(III)I -/
def mt_137 : gM := (yX11_wish, cX11_wish, 4, (some .int))
/-- 138: CornerTown.clear()I -/
def mt_138 : gM := (yX11_clear, cX11_clear, 2, (some .int))
/-- 139: CornerTown.doors(I)I -/
def mt_139 : gM := (yX11_doors, cX11_doors, 2, (some .int))
/-- 140: CornerTown.news(II)I -/
def mt_140 : gM := (yX11_news, cX11_news, 3, (some .int))
/-- 141: CornerTown.log(II)I -/
def mt_141 : gM := (yX11_log, cX11_log, 3, (some .int))
/-- 142: CornerTown.forget()I -/
def mt_142 : gM := (yX11_forget, cX11_forget, 2, (some .int))
/-- 143: CornerTown.wrong(I)I -/
def mt_143 : gM := (yX11_wrong, cX11_wrong, 2, (some .int))
/-- 144: CornerTown.fits(II)I -/
def mt_144 : gM := (yX11_fits, cX11_fits, 3, (some .int))
/-- 145: CornerTown.round(II)I -/
def mt_145 : gM := (yX11_round, cX11_round, 3, (some .int))
/-- 146: CornerTown.stop(III)I -/
def mt_146 : gM := (yX11_stop, cX11_stop, 4, (some .int))
/-- 147: CornerTown.meet(III)I -/
def mt_147 : gM := (yX11_meet, cX11_meet, 5, (some .int))
/-- 148: CornerTown.site(IIIII)I -/
def mt_148 : gM := (yX11_site, cX11_site, 9, (some .int))
/-- 149: CornerTown.flood(II)I -/
def mt_149 : gM := (yX11_flood, cX11_flood, 3, (some .int))
/-- 150: CornerTown.flooded(II)I -/
def mt_150 : gM := (yX11_flooded, cX11_flooded, 3, (some .int))
/-- 151: CornerTown.image(I)I -/
def mt_151 : gM := (yX11_image, cX11_image, 2, (some .int))
/-- 152: CornerTown.back(I)I -/
def mt_152 : gM := (yX11_back, cX11_back, 2, (some .int))
/-- 153: CornerTown.count(I)I -/
def mt_153 : gM := (yX11_count, cX11_count, 2, (some .int))
/-- 154: CornerTown.status()I -/
def mt_154 : gM := (yX11_status, cX11_status, 1, (some .int))
/-- 155: CornerTown.accept(I)I -/
def mt_155 : gM := (yX11_accept, cX11_accept, 2, (some .int))
/-- 156: CornerTown.refuse(I)I -/
def mt_156 : gM := (yX11_refuse, cX11_refuse, 3, (some .int))
/-- 157: CornerTown.feedFour(I)V -/
def mt_157 : gM := (yX11_feedFour, cX11_feedFour, 3, none)
/-- 158: CornerTown.buildFrom(I)Z -/
def mt_158 : gM := (yX11_buildFrom, cX11_buildFrom, 7, (some .boolean))
/-- 159: CornerTown.keepPair(LCornerTown$Pairs;II)I -/
def mt_159 : gM := (yX11_keepPair, cX11_keepPair, 4, (some .int))
/-- 160: CornerTown.within(III)Z -/
def mt_160 : gM := (yX11_within, cX11_within, 3, (some .boolean))
/-- 161: CornerTown.bitOf(II)I -/
def mt_161 : gM := (yX11_bitOf, cX11_bitOf, 2, (some .int))
/-- 162: CornerTown.lowestOf(I)I -/
def mt_162 : gM := (yX11_lowestOf, cX11_lowestOf, 1, (some .int))
/-- 163: CornerTownModel.lies(III)Z -/
def mt_163 : gM := (yX12_lies, cX12_lies, 3, (some .boolean))
/-- 164: CornerTownModel.refuses(I)I -/
def mt_164 : gM := (yX12_refuses, cX12_refuses, 2, (some .int))
/-- 165: CornerTownModel.good(I)I -/
def mt_165 : gM := (yX12_good, cX12_good, 2, (some .int))
/-- 166: CornerTownModel.isIn(II)Z -/
def mt_166 : gM := (yX12_isIn, cX12_isIn, 2, (some .boolean))
/-- 167: CornerTownModel.ones(I)I -/
def mt_167 : gM := (yX12_ones, cX12_ones, 3, (some .int))
/-- 168: CornerTownModel.<init>()V -/
def mt_168 : gM := (yX12_init, cX12_init, 1, none)
/-- 169: CornerTownModel.image(I)I -/
def mt_169 : gM := (yX12_image, cX12_image, 3, (some .int))
/-- 170: CornerTownModel.back(I)I -/
def mt_170 : gM := (yX12_back, cX12_back, 3, (some .int))
/-- 171: CornerTownModel.houses()I -/
def mt_171 : gM := (yX12_houses, cX12_houses, 1, (some .int))
/-- 172: CornerTownModel.isHouse(I)Z -/
def mt_172 : gM := (yX12_isHouse, cX12_isHouse, 2, (some .boolean))
/-- 173: CornerTownModel.factOf(II)I -/
def mt_173 : gM := (yX12_factOf, cX12_factOf, 3, (some .int))
/-- 174: CornerTownModel.stands(I)Z -/
def mt_174 : gM := (yX12_stands, cX12_stands, 2, (some .boolean))
/-- 175: CornerTownModel.standing()I -/
def mt_175 : gM := (yX12_standing, cX12_standing, 3, (some .int))
/-- 176: CornerTownModel.has(III)Z -/
def mt_176 : gM := (yX12_has, cX12_has, 4, (some .boolean))
/-- 177: CornerTownModel.houseAt(II)I -/
def mt_177 : gM := (yX12_houseAt, cX12_houseAt, 4, (some .int))
/-- 178: CornerTownModel.canBe(IIII)Z -/
def mt_178 : gM := (yX12_canBe, cX12_canBe, 4, (some .boolean))
/-- 179: CornerTownModel.isFree(IIII)Z -/
def mt_179 : gM := (yX12_isFree, cX12_isFree, 6, (some .boolean))
/-- 180: CornerTownModel.adds(IIIII)I -/
def mt_180 : gM := (yX12_adds, cX12_adds, 8, (some .int))
/-- 181: CornerTownModel.house(IIIII)I -/
def mt_181 : gM := (yX12_house, cX12_house, 6, (some .int))
/-- 182: CornerTownModel.of(II)I -/
def mt_182 : gM := (yX12_of, cX12_of, 3, (some .int))
/-- 183: CornerTownModel.rank(II)I -/
def mt_183 : gM := (yX12_rank, cX12_rank, 4, (some .int))
/-- 184: CornerTownModel.stand(II)I -/
def mt_184 : gM := (yX12_stand, cX12_stand, 4, (some .int))
/-- 185: CornerTownModel.at(II)I -/
def mt_185 : gM := (yX12_at, cX12_at, 3, (some .int))
/-- 186: CornerTownModel.terms(II)I -/
def mt_186 : gM := (yX12_terms, cX12_terms, 4, (some .int))
/-- 187: CornerTownModel.hasDoor(II)Z -/
def mt_187 : gM := (yX12_hasDoor, cX12_hasDoor, 3, (some .boolean))
/-- 188: CornerTownModel.doorMany()I -/
def mt_188 : gM := (yX12_doorMany, cX12_doorMany, 4, (some .int))
/-- 189: CornerTownModel.setsDoor(III)V -/
def mt_189 : gM := (yX12_setsDoor, cX12_setsDoor, 4, none)
/-- 190: CornerTownModel.door(II)I -/
def mt_190 : gM := (yX12_door, cX12_door, 3, (some .int))
/-- 191: CornerTownModel.wall(II)I -/
def mt_191 : gM := (yX12_wall, cX12_wall, 3, (some .int))
/-- 192: CornerTownModel.row()I -/
def mt_192 : gM := (yX12_row, cX12_row, 5, (some .int))
/-- 193: CornerTownModel.ruin()I -/
def mt_193 : gM := (yX12_ruin, cX12_ruin, 1, (some .int))
/-- 194: CornerTownModel.feed(IIIII)I -/
def mt_194 : gM := (yX12_feed, cX12_feed, 7, (some .int))
/-- 195: CornerTownModel.end(I)I -/
def mt_195 : gM := (yX12_end, cX12_end, 2, (some .int))
/-- 196: CornerTownModel.isSmall(I)Z -/
def mt_196 : gM := (yX12_isSmall, cX12_isSmall, 1, (some .boolean))
/-- 197: CornerTownModel.isDigit(I)Z -/
def mt_197 : gM := (yX12_isDigit, cX12_isDigit, 1, (some .boolean))
/-- 198: CornerTownModel.wordOf(II)I -/
def mt_198 : gM := (yX12_wordOf, cX12_wordOf, 8, (some .int))
/-- 199: CornerTownModel.splits(I)V -/
def mt_199 : gM := (yX12_splits, cX12_splits, 6, none)
/-- 200: CornerTownModel.fine()Z -/
def mt_200 : gM := (yX12_fine, cX12_fine, 1, (some .boolean))
/-- 201: CornerTownModel.faults()V -/
def mt_201 : gM := (yX12_faults, cX12_faults, 1, none)
/-- 202: CornerTownModel.takes0(I)Z -/
def mt_202 : gM := (yX12_takes0, cX12_takes0, 3, (some .boolean))
/-- 203: CornerTownModel.must(I)V -/
def mt_203 : gM := (yX12_must, cX12_must, 2, none)
/-- 204: CornerTownModel.leaf()V -/
def mt_204 : gM := (yX12_leaf, cX12_leaf, 1, none)
/-- 205: CornerTownModel.sign(C)I -/
def mt_205 : gM := (yX12_sign, cX12_sign, 1, (some .int))
/-- 206: CornerTownModel.readClause()V -/
def mt_206 : gM := (yX12_readClause, cX12_readClause, 1, none)
/-- 207: CornerTownModel.readTest(I)V -/
def mt_207 : gM := (yX12_readTest, cX12_readTest, 2, none)
/-- 208: CornerTownModel.readBoth(I)V -/
def mt_208 : gM := (yX12_readBoth, cX12_readBoth, 2, none)
/-- 209: CornerTownModel.readPlain(I)V -/
def mt_209 : gM := (yX12_readPlain, cX12_readPlain, 4, none)
/-- 210: CornerTownModel.readSum(I)V -/
def mt_210 : gM := (yX12_readSum, cX12_readSum, 2, none)
/-- 211: CornerTownModel.readTerm(I)V -/
def mt_211 : gM := (yX12_readTerm, cX12_readTerm, 2, none)
/-- 212: CornerTownModel.readPart(I)V -/
def mt_212 : gM := (yX12_readPart, cX12_readPart, 3, none)
/-- 213: CornerTownModel.reads()Z -/
def mt_213 : gM := (yX12_reads, cX12_reads, 2, (some .boolean))
/-- 214: CornerTownModel.law()I -/
def mt_214 : gM := (yX12_law, cX12_law, 3, (some .int))
/-- 215: CornerTownModel.fault()I -/
def mt_215 : gM := (yX12_fault, cX12_fault, 1, (some .int))
/-- 216: CornerTownModel.force(I)I -/
def mt_216 : gM := (yX12_force, cX12_force, 3, (some .int))
/-- 217: CornerTownModel.codeAt(I)I -/
def mt_217 : gM := (yX12_codeAt, cX12_codeAt, 2, (some .int))
/-- 218: CornerTownModel.passes0(I)Z -/
def mt_218 : gM := (yX12_passes0, cX12_passes0, 3, (some .boolean))
/-- 219: CornerTownModel.bounded(JZ)J -/
def mt_219 : gM := (yX12_bounded, cX12_bounded, 4, (some .long))
/-- 220: CornerTownModel.sumOf(Z)J -/
def mt_220 : gM := (yX12_sumOf, cX12_sumOf, 7, (some .long))
/-- 221: CornerTownModel.termOf(Z)J -/
def mt_221 : gM := (yX12_termOf, cX12_termOf, 7, (some .long))
/-- 222: CornerTownModel.partOf(Z)J -/
def mt_222 : gM := (yX12_partOf, cX12_partOf, 4, (some .long))
/-- 223: CornerTownModel.testOf(Z)Z -/
def mt_223 : gM := (yX12_testOf, cX12_testOf, 4, (some .boolean))
/-- 224: CornerTownModel.bothOf(Z)Z -/
def mt_224 : gM := (yX12_bothOf, cX12_bothOf, 4, (some .boolean))
/-- 225: CornerTownModel.plainOf(Z)Z -/
def mt_225 : gM := (yX12_plainOf, cX12_plainOf, 3, (some .boolean))
/-- 226: CornerTownModel.positiveOf(Z)Z -/
def mt_226 : gM := (yX12_positiveOf, cX12_positiveOf, 7, (some .boolean))
/-- 227: CornerTownModel.asksOf(IIII)V -/
def mt_227 : gM := (yX12_asksOf, cX12_asksOf, 10, none)
/-- 228: CornerTownModel.meet0(IIII)Z -/
def mt_228 : gM := (yX12_meet0, cX12_meet0, 4, (some .boolean))
/-- 229: CornerTownModel.overlap(IIII)Z -/
def mt_229 : gM := (yX12_overlap, cX12_overlap, 4, (some .boolean))
/-- 230: CornerTownModel.touchOf(IIIII)I -/
def mt_230 : gM := (yX12_touchOf, cX12_touchOf, 10, (some .int))
/-- 231: CornerTownModel.touching(II)I -/
def mt_231 : gM := (yX12_touching, cX12_touching, 3, (some .int))
/-- 232: CornerTownModel.touch(II)I -/
def mt_232 : gM := (yX12_touch, cX12_touch, 3, (some .int))
/-- 233: CornerTownModel.laysVisits(I)V -/
def mt_233 : gM := (yX12_laysVisits, cX12_laysVisits, 5, none)
/-- 234: CornerTownModel.looks()V -/
def mt_234 : gM := (yX12_looks, cX12_looks, 1, none)
/-- 235: CornerTownModel.visit(III)I -/
def mt_235 : gM := (yX12_visit, cX12_visit, 4, (some .int))
/-- 236: CornerTownModel.visits(I)I -/
def mt_236 : gM := (yX12_visits, cX12_visits, 2, (some .int))
/-- 237: CornerTownModel.nexts(I)I -/
def mt_237 : gM := (yX12_nexts, cX12_nexts, 3, (some .int))
/-- 238: CornerTownModel.withOr(III)I -/
def mt_238 : gM := (yX12_withOr, cX12_withOr, 4, (some .int))
/-- 239: CornerTownModel.reach(II)I -/
def mt_239 : gM := (yX12_reach, cX12_reach, 6, (some .int))
/-- 240: CornerTownModel.come(III)Z -/
def mt_240 : gM := (yX12_come, cX12_come, 4, (some .boolean))
/-- 241: CornerTownModel.countsWays(I)V -/
def mt_241 : gM := (yX12_countsWays, cX12_countsWays, 5, none)
/-- 242: CornerTownModel.distances(I)V -/
def mt_242 : gM := (yX12_distances, cX12_distances, 6, none)
/-- 243: CornerTownModel.comes(III)I -/
def mt_243 : gM := (yX12_comes, cX12_comes, 4, (some .int))
/-- 244: CornerTownModel.way(III)I -/
def mt_244 : gM := (yX12_way, cX12_way, 8, (some .int))
/-- 245: CornerTownModel.partsOf(I)V -/
def mt_245 : gM := (yX12_partsOf, cX12_partsOf, 7, none)
/-- 246: CornerTownModel.parts(I)I -/
def mt_246 : gM := (yX12_parts, cX12_parts, 2, (some .int))
/-- 247: CornerTownModel.holders(II)I -/
def mt_247 : gM := (yX12_holders, cX12_holders, 5, (some .int))
/-- 248: CornerTownModel.cut(III)I -/
def mt_248 : gM := (yX12_cut, cX12_cut, 9, (some .int))
/-- 249: CornerTownModel.wish(III)I -/
def mt_249 : gM := (yX12_wish, cX12_wish, 6, (some .int))
/-- 250: CornerTownModel.clear()I -/
def mt_250 : gM := (yX12_clear, cX12_clear, 2, (some .int))
/-- 251: CornerTownModel.isWished()Z -/
def mt_251 : gM := (yX12_isWished, cX12_isWished, 2, (some .boolean))
/-- 252: CornerTownModel.found(I)V -/
def mt_252 : gM := (yX12_found, cX12_found, 2, none)
/-- 253: CornerTownModel.isPair(I)Z -/
def mt_253 : gM := (yX12_isPair, cX12_isPair, 2, (some .boolean))
/-- 254: CornerTownModel.seeksDoors()V -/
def mt_254 : gM := (yX12_seeksDoors, cX12_seeksDoors, 4, none)
/-- 255: CornerTownModel.doors(I)I -/
def mt_255 : gM := (yX12_doors, cX12_doors, 2, (some .int))
/-- 256: CornerTownModel.spreads(I)V -/
def mt_256 : gM := (yX12_spreads, cX12_spreads, 6, none)
/-- 257: CornerTownModel.news(II)I -/
def mt_257 : gM := (yX12_news, cX12_news, 3, (some .int))
/-- 258: CornerTownModel.log(II)I -/
def mt_258 : gM := (yX12_log, cX12_log, 4, (some .int))
/-- 259: CornerTownModel.forget()I -/
def mt_259 : gM := (yX12_forget, cX12_forget, 2, (some .int))
/-- 260: CornerTownModel.wrongs(I)I -/
def mt_260 : gM := (yX12_wrongs, cX12_wrongs, 4, (some .int))
/-- 261: CornerTownModel.wrong(I)I -/
def mt_261 : gM := (yX12_wrong, cX12_wrong, 2, (some .int))
/-- 262: CornerTownModel.fits(II)I -/
def mt_262 : gM := (yX12_fits, cX12_fits, 6, (some .int))
/-- 263: CornerTownModel.laysBetween()V -/
def mt_263 : gM := (yX12_laysBetween, cX12_laysBetween, 3, none)
/-- 264: CornerTownModel.canRound(II)Z -/
def mt_264 : gM := (yX12_canRound, cX12_canRound, 3, (some .boolean))
/-- 265: CornerTownModel.least(II)I -/
def mt_265 : gM := (yX12_least, cX12_least, 8, (some .int))
/-- 266: CornerTownModel.round(II)I -/
def mt_266 : gM := (yX12_round, cX12_round, 4, (some .int))
/-- 267: CornerTownModel.stop(III)I -/
def mt_267 : gM := (yX12_stop, cX12_stop, 8, (some .int))
/-- 268: CornerTownModel.meet(III)I -/
def mt_268 : gM := (yX12_meet, cX12_meet, 11, (some .int))
/-- 269: CornerTownModel.site(IIIII)I -/
def mt_269 : gM := (yX12_site, cX12_site, 14, (some .int))
/-- 270: CornerTownModel.draws(I)I -/
def mt_270 : gM := (yX12_draws, cX12_draws, 2, (some .int))
/-- 271: CornerTownModel.flood(II)I -/
def mt_271 : gM := (yX12_flood, cX12_flood, 7, (some .int))
/-- 272: CornerTownModel.flooded(II)I -/
def mt_272 : gM := (yX12_flooded, cX12_flooded, 3, (some .int))
/-- 273: CornerTownModel.count(I)I -/
def mt_273 : gM := (yX12_count, cX12_count, 2, (some .int))
/-- 274: CornerTownModel.status()I -/
def mt_274 : gM := (yX12_status, cX12_status, 1, (some .int))
/-- 275: java/lang/Integer.bitCount(I)I -/
def mt_275 : gM := (yJ6_bitCount_0f7a4, cJ6_bitCount_0f7a4, 1, (some .int))
/-- 276: java/lang/Math.max(II)I -/
def mt_276 : gM := (Lib.Math.max.name, Lib.Math.max.code, 2, (some .int))
/-- 277: java/lang/Math.max(JJ)J -/
def mt_277 : gM := (Lib.MathLoose.max_long.x, Lib.MathLoose.max_long.code, 4, (some .long))
/-- 278: java/lang/Math.min(II)I -/
def mt_278 : gM := (Lib.Math.min.name, Lib.Math.min.code, 2, (some .int))
/-- 279: java/lang/Math.min(JJ)J -/
def mt_279 : gM := (Lib.MathLoose.min_long.x, Lib.MathLoose.min_long.code, 4, (some .long))
/-- 280: java/lang/String.length()I -/
def mt_280 : gM := (yJ0_length_8abf5, cJ0_length_8abf5, 1, (some .int))
/-- 281: java/lang/String.charAt(I)C -/
def mt_281 : gM := (yJ0_charAt_5068e, cJ0_charAt_5068e, 2, (some .char))
/-- 282: java/lang/String.coder()B -/
def mt_282 : gM := (yJ0_coder_7d493, cJ0_coder_7d493, 1, (some .byte))
/-- 283: java/lang/String.isLatin1()Z -/
def mt_283 : gM := (yJ0_isLatin1_aae02, cJ0_isLatin1_aae02, 1, (some .boolean))
/-- 284: java/lang/String.checkIndex(II)V -/
def mt_284 : gM := (yJ0_checkIndex_df160, cJ0_checkIndex_df160, 2, none)
/-- 285: java/lang/StringLatin1.charAt([BI)C -/
def mt_285 : gM := (yJ1_charAt_3b067, cJ1_charAt_3b067, 2, (some .char))
/-- 286: java/util/Arrays.fill([II)V -/
def mt_286 : gM := (yJ7_fill_53178, cJ7_fill_53178, 4, none)
/-- 287: java/util/Arrays.copyOf([II)[I -/
def mt_287 : gM := (yJ7_copyOf_59c91, cJ7_copyOf_59c91, 3, (some (.array .int)))
/-- 288: jdk/internal/util/Preconditions.checkIndex(IILjava/util/function/BiFunction;)I -/
def mt_288 : gM := (yJ3_checkIndex_8e157, cJ3_checkIndex_8e157, 3, (some .int))
def gMs : List gM := [mt_0, mt_1, mt_2, mt_3, mt_4, mt_5, mt_6, mt_7, mt_8, mt_9, mt_10, mt_11, mt_12, mt_13, mt_14, mt_15, mt_16, mt_17, mt_18, mt_19, mt_20, mt_21, mt_22, mt_23, mt_24, mt_25, mt_26, mt_27, mt_28, mt_29, mt_30, mt_31, mt_32, mt_33, mt_34, mt_35, mt_36, mt_37, mt_38, mt_39, mt_40, mt_41, mt_42, mt_43, mt_44, mt_45, mt_46, mt_47, mt_48, mt_49, mt_50, mt_51, mt_52, mt_53, mt_54, mt_55, mt_56, mt_57, mt_58, mt_59, mt_60, mt_61, mt_62, mt_63, mt_64, mt_65, mt_66, mt_67, mt_68, mt_69, mt_70, mt_71, mt_72, mt_73, mt_74, mt_75, mt_76, mt_77, mt_78, mt_79, mt_80, mt_81, mt_82, mt_83, mt_84, mt_85, mt_86, mt_87, mt_88, mt_89, mt_90, mt_91, mt_92, mt_93, mt_94, mt_95, mt_96, mt_97, mt_98, mt_99, mt_100, mt_101, mt_102, mt_103, mt_104, mt_105, mt_106, mt_107, mt_108, mt_109, mt_110, mt_111, mt_112, mt_113, mt_114, mt_115, mt_116, mt_117, mt_118, mt_119, mt_120, mt_121, mt_122, mt_123, mt_124, mt_125, mt_126, mt_127, mt_128, mt_129, mt_130, mt_131, mt_132, mt_133, mt_134, mt_135, mt_136, mt_137, mt_138, mt_139, mt_140, mt_141, mt_142, mt_143, mt_144, mt_145, mt_146, mt_147, mt_148, mt_149, mt_150, mt_151, mt_152, mt_153, mt_154, mt_155, mt_156, mt_157, mt_158, mt_159, mt_160, mt_161, mt_162, mt_163, mt_164, mt_165, mt_166, mt_167, mt_168, mt_169, mt_170, mt_171, mt_172, mt_173, mt_174, mt_175, mt_176, mt_177, mt_178, mt_179, mt_180, mt_181, mt_182, mt_183, mt_184, mt_185, mt_186, mt_187, mt_188, mt_189, mt_190, mt_191, mt_192, mt_193, mt_194, mt_195, mt_196, mt_197, mt_198, mt_199, mt_200, mt_201, mt_202, mt_203, mt_204, mt_205, mt_206, mt_207, mt_208, mt_209, mt_210, mt_211, mt_212, mt_213, mt_214, mt_215, mt_216, mt_217, mt_218, mt_219, mt_220, mt_221, mt_222, mt_223, mt_224, mt_225, mt_226, mt_227, mt_228, mt_229, mt_230, mt_231, mt_232, mt_233, mt_234, mt_235, mt_236, mt_237, mt_238, mt_239, mt_240, mt_241, mt_242, mt_243, mt_244, mt_245, mt_246, mt_247, mt_248, mt_249, mt_250, mt_251, mt_252, mt_253, mt_254, mt_255, mt_256, mt_257, mt_258, mt_259, mt_260, mt_261, mt_262, mt_263, mt_264, mt_265, mt_266, mt_267, mt_268, mt_269, mt_270, mt_271, mt_272, mt_273, mt_274, mt_275, mt_276, mt_277, mt_278, mt_279, mt_280, mt_281, mt_282, mt_283, mt_284, mt_285, mt_286, mt_287, mt_288]
def gMT (i : Nat) : gM := gMs.getD i gM0
def gFind : List (Nat × gO) → Nat → Option gO
  | [], _ => none
  | e :: t, pc => if e.1 = pc then some e.2 else gFind t pc
def gAll (l : Launch) (M : gM) : List (Nat × gO) → Prop
  | [] => True
  | e :: t => gOk2 gMT l M e.1 e.2 ∧ gAll l M t
theorem gAll_app {l : Launch} {M : gM} {a b : List (Nat × gO)} (ha : gAll l M a) (hb : gAll l M b) : gAll l M (a ++ b) := by
  induction a with
  | nil => exact hb
  | cons e t ih => exact ⟨ha.1, ih ha.2⟩
theorem gAll_find {l : Launch} {M : gM} {a : List (Nat × gO)} (ha : gAll l M a) {pc : Nat} {o : gO} (h : gFind a pc = some o) : gOk2 gMT l M pc o := by
  induction a with
  | nil => cases h
  | cons e t ih =>
    unfold gFind at h
    split at h
    · next e1 =>
      cases h
      rw [← e1]
      exact ha.1
    · exact ih ha.2 h
