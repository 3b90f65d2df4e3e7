theorem nw_CornerTown_Crossings_38 : Cond.methodLinkNest RX0 38 yX11_lowestOf "CornerTown" ∈ gNW := List.mem_filter.mpr ⟨(tk_5 _ (List.mem_of_getElem? (i := 23) rfl)), rfl⟩
theorem nw_CornerTown_Crossings_42 : Cond.methodLinkNest RX0 42 yX11_within "CornerTown" ∈ gNW := List.mem_filter.mpr ⟨(tk_4 _ (List.mem_of_getElem? (i := 207) rfl)), rfl⟩
theorem nw_CornerTown_Crossings_57 : Cond.methodLinkNest RX0 57 yX11_bitOf "CornerTown" ∈ gNW := List.mem_filter.mpr ⟨(tk_4 _ (List.mem_of_getElem? (i := 211) rfl)), rfl⟩
theorem nw_CornerTown_DoorSearch_76 : Cond.methodLinkNest RX1 76 yX11_bitOf "CornerTown" ∈ gNW := List.mem_filter.mpr ⟨(tk_5 _ (List.mem_of_getElem? (i := 106) rfl)), rfl⟩
theorem nw_CornerTown_DoorSearch_87 : Cond.methodLinkNest RX1 87 yX11_within "CornerTown" ∈ gNW := List.mem_filter.mpr ⟨(tk_5 _ (List.mem_of_getElem? (i := 122) rfl)), rfl⟩
theorem nw_CornerTown_Floods_41 : Cond.methodLinkNest RX2 41 yX11_within "CornerTown" ∈ gNW := List.mem_filter.mpr ⟨(tk_6 _ (List.mem_of_getElem? (i := 46) rfl)), rfl⟩
theorem nw_CornerTown_Floods_91 : Cond.methodLinkNest RX2 91 yX11_bitOf "CornerTown" ∈ gNW := List.mem_filter.mpr ⟨(tk_6 _ (List.mem_of_getElem? (i := 31) rfl)), rfl⟩
theorem nw_CornerTown_News_46 : Cond.methodLinkNest RX4 46 yX11_within "CornerTown" ∈ gNW := List.mem_filter.mpr ⟨(tk_5 _ (List.mem_of_getElem? (i := 149) rfl)), rfl⟩
theorem nw_CornerTown_News_60 : Cond.methodLinkNest RX4 60 yX11_bitOf "CornerTown" ∈ gNW := List.mem_filter.mpr ⟨(tk_5 _ (List.mem_of_getElem? (i := 148) rfl)), rfl⟩
theorem nw_CornerTown_Rounds_78 : Cond.methodLinkNest RX8 78 yX11_bitOf "CornerTown" ∈ gNW := List.mem_filter.mpr ⟨(tk_5 _ (List.mem_of_getElem? (i := 195) rfl)), rfl⟩
theorem nw_CornerTown_Rounds_108 : Cond.methodLinkNest RX8 108 yX11_within "CornerTown" ∈ gNW := List.mem_filter.mpr ⟨(tk_5 _ (List.mem_of_getElem? (i := 227) rfl)), rfl⟩
theorem nw_CornerTown_Streets_66 : Cond.methodLinkNest RX9 66 yX11_bitOf "CornerTown" ∈ gNW := List.mem_filter.mpr ⟨(tk_4 _ (List.mem_of_getElem? (i := 105) rfl)), rfl⟩
theorem nw_CornerTown_Streets_126 : Cond.methodLinkNest RX9 126 yX11_within "CornerTown" ∈ gNW := List.mem_filter.mpr ⟨(tk_4 _ (List.mem_of_getElem? (i := 227) rfl)), rfl⟩
theorem nw_CornerTown_Town_80 : Cond.methodLinkNest RX10 80 yX11_bitOf "CornerTown" ∈ gNW := List.mem_filter.mpr ⟨(tk_4 _ (List.mem_of_getElem? (i := 104) rfl)), rfl⟩
theorem nw_CornerTown_Town_84 : Cond.methodLinkNest RX10 84 yX11_within "CornerTown" ∈ gNW := List.mem_filter.mpr ⟨(tk_3 _ (List.mem_of_getElem? (i := 25) rfl)), rfl⟩
theorem hc_RX11 : RX11 ≠ "java/lang/invoke/MethodHandle" ∧ RX11 ≠ "java/lang/invoke/VarHandle" := by decide +kernel
theorem hc_RX0 : RX0 ≠ "java/lang/invoke/MethodHandle" ∧ RX0 ≠ "java/lang/invoke/VarHandle" := by decide +kernel
theorem hc_RX1 : RX1 ≠ "java/lang/invoke/MethodHandle" ∧ RX1 ≠ "java/lang/invoke/VarHandle" := by decide +kernel
theorem hc_RX2 : RX2 ≠ "java/lang/invoke/MethodHandle" ∧ RX2 ≠ "java/lang/invoke/VarHandle" := by decide +kernel
theorem hc_RX3 : RX3 ≠ "java/lang/invoke/MethodHandle" ∧ RX3 ≠ "java/lang/invoke/VarHandle" := by decide +kernel
theorem hc_RX4 : RX4 ≠ "java/lang/invoke/MethodHandle" ∧ RX4 ≠ "java/lang/invoke/VarHandle" := by decide +kernel
theorem hc_RX5 : RX5 ≠ "java/lang/invoke/MethodHandle" ∧ RX5 ≠ "java/lang/invoke/VarHandle" := by decide +kernel
theorem hc_RX6 : RX6 ≠ "java/lang/invoke/MethodHandle" ∧ RX6 ≠ "java/lang/invoke/VarHandle" := by decide +kernel
theorem hc_RX7 : RX7 ≠ "java/lang/invoke/MethodHandle" ∧ RX7 ≠ "java/lang/invoke/VarHandle" := by decide +kernel
theorem hc_RX8 : RX8 ≠ "java/lang/invoke/MethodHandle" ∧ RX8 ≠ "java/lang/invoke/VarHandle" := by decide +kernel
theorem hc_RX9 : RX9 ≠ "java/lang/invoke/MethodHandle" ∧ RX9 ≠ "java/lang/invoke/VarHandle" := by decide +kernel
theorem hc_RX10 : RX10 ≠ "java/lang/invoke/MethodHandle" ∧ RX10 ≠ "java/lang/invoke/VarHandle" := by decide +kernel
theorem hc_RX12 : RX12 ≠ "java/lang/invoke/MethodHandle" ∧ RX12 ≠ "java/lang/invoke/VarHandle" := by decide +kernel
theorem hc_RJ6 : RJ6 ≠ "java/lang/invoke/MethodHandle" ∧ RJ6 ≠ "java/lang/invoke/VarHandle" := by decide +kernel
theorem hc_RJ0 : RJ0 ≠ "java/lang/invoke/MethodHandle" ∧ RJ0 ≠ "java/lang/invoke/VarHandle" := by decide +kernel
theorem hc_RJ1 : RJ1 ≠ "java/lang/invoke/MethodHandle" ∧ RJ1 ≠ "java/lang/invoke/VarHandle" := by decide +kernel
theorem hc_RJ7 : RJ7 ≠ "java/lang/invoke/MethodHandle" ∧ RJ7 ≠ "java/lang/invoke/VarHandle" := by decide +kernel
theorem hc_RJ3 : RJ3 ≠ "java/lang/invoke/MethodHandle" ∧ RJ3 ≠ "java/lang/invoke/VarHandle" := by decide +kernel
theorem hd_0 : (parseMethodDescriptor "()B").map (fun d => d.parameters.length) = some 0 := by decide +kernel
theorem hd_1 : (parseMethodDescriptor "()I").map (fun d => d.parameters.length) = some 0 := by decide +kernel
theorem hd_2 : (parseMethodDescriptor "()LCornerTown$Law;").map (fun d => d.parameters.length) = some 0 := by decide +kernel
theorem hd_3 : (parseMethodDescriptor "()V").map (fun d => d.parameters.length) = some 0 := by decide +kernel
theorem hd_4 : (parseMethodDescriptor "()Z").map (fun d => d.parameters.length) = some 0 := by decide +kernel
theorem hd_5 : (parseMethodDescriptor "()[I").map (fun d => d.parameters.length) = some 0 := by decide +kernel
theorem hd_6 : (parseMethodDescriptor "(C)I").map (fun d => d.parameters.length) = some 1 := by decide +kernel
theorem hd_7 : (parseMethodDescriptor "(C)Z").map (fun d => d.parameters.length) = some 1 := by decide +kernel
theorem hd_8 : (parseMethodDescriptor "(I)C").map (fun d => d.parameters.length) = some 1 := by decide +kernel
theorem hd_9 : (parseMethodDescriptor "(I)I").map (fun d => d.parameters.length) = some 1 := by decide +kernel
theorem hd_10 : (parseMethodDescriptor "(I)LCornerTown$Law;").map (fun d => d.parameters.length) = some 1 := by decide +kernel
theorem hd_11 : (parseMethodDescriptor "(I)V").map (fun d => d.parameters.length) = some 1 := by decide +kernel
theorem hd_12 : (parseMethodDescriptor "(I)Z").map (fun d => d.parameters.length) = some 1 := by decide +kernel
theorem hd_13 : (parseMethodDescriptor "(II)I").map (fun d => d.parameters.length) = some 2 := by decide +kernel
theorem hd_14 : (parseMethodDescriptor "(II)V").map (fun d => d.parameters.length) = some 2 := by decide +kernel
theorem hd_15 : (parseMethodDescriptor "(II)Z").map (fun d => d.parameters.length) = some 2 := by decide +kernel
theorem hd_16 : (parseMethodDescriptor "(III)I").map (fun d => d.parameters.length) = some 3 := by decide +kernel
theorem hd_17 : (parseMethodDescriptor "(III)V").map (fun d => d.parameters.length) = some 3 := by decide +kernel
theorem hd_18 : (parseMethodDescriptor "(III)Z").map (fun d => d.parameters.length) = some 3 := by decide +kernel
theorem hd_19 : (parseMethodDescriptor "(IIII)V").map (fun d => d.parameters.length) = some 4 := by decide +kernel
theorem hd_20 : (parseMethodDescriptor "(IIII)Z").map (fun d => d.parameters.length) = some 4 := by decide +kernel
theorem hd_21 : (parseMethodDescriptor "(IIIII)I").map (fun d => d.parameters.length) = some 5 := by decide +kernel
theorem hd_22 : (parseMethodDescriptor "(IIIIII)Z").map (fun d => d.parameters.length) = some 6 := by decide +kernel
theorem hd_23 : (parseMethodDescriptor "(IILjava/util/function/BiFunction;)I").map (fun d => d.parameters.length) = some 3 := by decide +kernel
theorem hd_24 : (parseMethodDescriptor "(J)V").map (fun d => d.parameters.length) = some 1 := by decide +kernel
theorem hd_25 : (parseMethodDescriptor "(JZ)J").map (fun d => d.parameters.length) = some 2 := by decide +kernel
theorem hd_26 : (parseMethodDescriptor "(LCornerTown$Law;)I").map (fun d => d.parameters.length) = some 1 := by decide +kernel
theorem hd_27 : (parseMethodDescriptor "(LCornerTown$Law;)Z").map (fun d => d.parameters.length) = some 1 := by decide +kernel
theorem hd_28 : (parseMethodDescriptor "(LCornerTown$Law;I)Z").map (fun d => d.parameters.length) = some 2 := by decide +kernel
theorem hd_29 : (parseMethodDescriptor "(LCornerTown$Pairs;)V").map (fun d => d.parameters.length) = some 1 := by decide +kernel
theorem hd_30 : (parseMethodDescriptor "(LCornerTown$Pairs;I)Z").map (fun d => d.parameters.length) = some 2 := by decide +kernel
theorem hd_31 : (parseMethodDescriptor "(LCornerTown$Pairs;II)I").map (fun d => d.parameters.length) = some 3 := by decide +kernel
theorem hd_32 : (parseMethodDescriptor "(LCornerTown$Town;)V").map (fun d => d.parameters.length) = some 1 := by decide +kernel
theorem hd_33 : (parseMethodDescriptor "(LCornerTown$Town;IIII)V").map (fun d => d.parameters.length) = some 5 := by decide +kernel
theorem hd_34 : (parseMethodDescriptor "(LCornerTown$Town;LCornerTown$Streets;)V").map (fun d => d.parameters.length) = some 2 := by decide +kernel
theorem hd_35 : (parseMethodDescriptor "(LCornerTown$Town;LCornerTown$Streets;LCornerTown$Crossings;)V").map (fun d => d.parameters.length) = some 3 := by decide +kernel
theorem hd_36 : (parseMethodDescriptor "(Ljava/lang/String;)Z").map (fun d => d.parameters.length) = some 1 := by decide +kernel
theorem hd_37 : (parseMethodDescriptor "(Z)J").map (fun d => d.parameters.length) = some 1 := by decide +kernel
theorem hd_38 : (parseMethodDescriptor "(Z)Z").map (fun d => d.parameters.length) = some 1 := by decide +kernel
theorem hd_39 : (parseMethodDescriptor "([BI)C").map (fun d => d.parameters.length) = some 2 := by decide +kernel
theorem hd_40 : (parseMethodDescriptor "([I)V").map (fun d => d.parameters.length) = some 1 := by decide +kernel
theorem hd_41 : (parseMethodDescriptor "([II)I").map (fun d => d.parameters.length) = some 2 := by decide +kernel
theorem hd_42 : (parseMethodDescriptor "([II)V").map (fun d => d.parameters.length) = some 2 := by decide +kernel
theorem hd_43 : (parseMethodDescriptor "([II)[I").map (fun d => d.parameters.length) = some 2 := by decide +kernel
theorem hd_44 : (parseMethodDescriptor "([III)I").map (fun d => d.parameters.length) = some 3 := by decide +kernel
theorem hd_45 : (parseMethodDescriptor "([III)V").map (fun d => d.parameters.length) = some 3 := by decide +kernel
theorem hd_46 : (parseMethodDescriptor "([IIII)Z").map (fun d => d.parameters.length) = some 4 := by decide +kernel
theorem hd_47 : (parseMethodDescriptor "([I[I)V").map (fun d => d.parameters.length) = some 2 := by decide +kernel
theorem hd_48 : (parseMethodDescriptor "([I[II)V").map (fun d => d.parameters.length) = some 3 := by decide +kernel
theorem hd_49 : (parseMethodDescriptor "([I[III)V").map (fun d => d.parameters.length) = some 4 := by decide +kernel
theorem hd_50 : (parseMethodDescriptor "([I[I[IIZ)V").map (fun d => d.parameters.length) = some 5 := by decide +kernel
def gM0 : gM := (objectInit, ⟨#[0xb1]⟩, 1, none)
/-- 0: CornerTown$Crossings.<init>(LCornerTown$Town;)V -/
def mt_0 : gM := (yX0_init, cX0_init, 2, none)
/-- 1: CornerTown$Crossings.reach([III)I -/
def mt_1 : gM := (yX0_reach, cX0_reach, 8, (some .int))
/-- 2: CornerTown$Crossings.putPair([I[III)V -/
def mt_2 : gM := (yX0_putPair, cX0_putPair, 6, none)
/-- 3: CornerTown$Crossings.countWays([III)V -/
def mt_3 : gM := (yX0_countWays, cX0_countWays, 7, none)
/-- 4: CornerTown$Crossings.spread([III)I -/
def mt_4 : gM := (yX0_spread, cX0_spread, 8, (some .int))
/-- 5: CornerTown$Crossings.findParts([II)I -/
def mt_5 : gM := (yX0_findParts, cX0_findParts, 6, (some .int))
/-- 6: CornerTown$Crossings.partOf(I)I -/
def mt_6 : gM := (yX0_partOf, cX0_partOf, 4, (some .int))
/-- 7: CornerTown$Crossings.partAt(I)I -/
def mt_7 : gM := (yX0_partAt, cX0_partAt, 2, (some .int))
/-- 8: CornerTown$Crossings.meets([IIII)Z -/
def mt_8 : gM := (yX0_meets, cX0_meets, 4, (some .boolean))
/-- 9: CornerTown$Crossings.holdersBetween([III)I -/
def mt_9 : gM := (yX0_holdersBetween, cX0_holdersBetween, 6, (some .int))
/-- 10: CornerTown$Crossings.findCut([III)V -/
def mt_10 : gM := (yX0_findCut, cX0_findCut, 9, none)
/-- 11: CornerTown$DoorSearch.<init>(LCornerTown$Town;)V -/
def mt_11 : gM := (yX1_init, cX1_init, 2, none)
/-- 12: CornerTown$DoorSearch.pickedHouse(I)I -/
def mt_12 : gM := (yX1_pickedHouse, cX1_pickedHouse, 2, (some .int))
/-- 13: CornerTown$DoorSearch.search([I[I)V -/
def mt_13 : gM := (yX1_search, cX1_search, 4, none)
/-- 14: CornerTown$DoorSearch.listPairs([I[I)V -/
def mt_14 : gM := (yX1_listPairs, cX1_listPairs, 6, none)
/-- 15: CornerTown$DoorSearch.tryOne([I[I)V -/
def mt_15 : gM := (yX1_tryOne, cX1_tryOne, 4, none)
/-- 16: CornerTown$DoorSearch.tryTwo([I[II)V -/
def mt_16 : gM := (yX1_tryTwo, cX1_tryTwo, 5, none)
/-- 17: CornerTown$DoorSearch.keepFirst(III)V -/
def mt_17 : gM := (yX1_keepFirst, cX1_keepFirst, 4, none)
/-- 18: CornerTown$DoorSearch.allMeet()Z -/
def mt_18 : gM := (yX1_allMeet, cX1_allMeet, 1, (some .boolean))
/-- 19: CornerTown$DoorSearch.allAre(LCornerTown$Pairs;I)Z -/
def mt_19 : gM := (yX1_allAre, cX1_allAre, 5, (some .boolean))
/-- 20: CornerTown$Floods.<init>(LCornerTown$Town;LCornerTown$Streets;LCornerTown$Crossings;)V -/
def mt_20 : gM := (yX2_init, cX2_init, 4, none)
/-- 21: CornerTown$Floods.tell(II)I -/
def mt_21 : gM := (yX2_tell, cX2_tell, 3, (some .int))
/-- 22: CornerTown$Floods.rise(II)I -/
def mt_22 : gM := (yX2_rise, cX2_rise, 7, (some .int))
/-- 23: CornerTown$Floods.drawWater()I -/
def mt_23 : gM := (yX2_drawWater, cX2_drawWater, 3, (some .int))
/-- 24: CornerTown$Law.<init>([I[I[IIZ)V -/
def mt_24 : gM := (yX3_init, cX3_init, 8, none)
/-- 25: CornerTown$Law.stepAt(I)I -/
def mt_25 : gM := (yX3_stepAt, cX3_stepAt, 2, (some .int))
/-- 26: CornerTown$Law.startOf(I)I -/
def mt_26 : gM := (yX3_startOf, cX3_startOf, 2, (some .int))
/-- 27: CornerTown$Law.endOf(I)I -/
def mt_27 : gM := (yX3_endOf, cX3_endOf, 2, (some .int))
/-- 28: CornerTown$Law.isTakes(I)Z -/
def mt_28 : gM := (yX3_isTakes, cX3_isTakes, 2, (some .boolean))
/-- 29: CornerTown$Law.isTested(I)Z -/
def mt_29 : gM := (yX3_isTested, cX3_isTested, 2, (some .boolean))
/-- 30: CornerTown$News.<init>(LCornerTown$Town;)V -/
def mt_30 : gM := (yX4_init, cX4_init, 2, none)
/-- 31: CornerTown$News.firstDay([III)I -/
def mt_31 : gM := (yX4_firstDay, cX4_firstDay, 4, (some .int))
/-- 32: CornerTown$News.goRound([II)V -/
def mt_32 : gM := (yX4_goRound, cX4_goRound, 8, none)
/-- 33: CornerTown$News.wrongLogs([II)I -/
def mt_33 : gM := (yX4_wrongLogs, cX4_wrongLogs, 6, (some .int))
/-- 34: CornerTown$News.seekDoor([I[II)V -/
def mt_34 : gM := (yX4_seekDoor, cX4_seekDoor, 6, none)
/-- 35: CornerTown$News.tryDoor(III)V -/
def mt_35 : gM := (yX4_tryDoor, cX4_tryDoor, 4, none)
/-- 36: CornerTown$Pairs.<init>(I)V -/
def mt_36 : gM := (yX5_init, cX5_init, 2, none)
/-- 37: CornerTown$Pairs.isFull()Z -/
def mt_37 : gM := (yX5_isFull, cX5_isFull, 1, (some .boolean))
/-- 38: CornerTown$Pairs.keep(II)V -/
def mt_38 : gM := (yX5_keep, cX5_keep, 3, none)
/-- 39: CornerTown$Pairs.becomeLike(LCornerTown$Pairs;)V -/
def mt_39 : gM := (yX5_becomeLike, cX5_becomeLike, 3, none)
/-- 40: CornerTown$Reader.<init>([I)V -/
def mt_40 : gM := (yX6_init, cX6_init, 2, none)
/-- 41: CornerTown$Reader.read(I)LCornerTown$Law; -/
def mt_41 : gM := (yX6_read, cX6_read, 3, (some (.object "CornerTown$Law")))
/-- 42: CornerTown$Reader.begin(I)V -/
def mt_42 : gM := (yX6_begin, cX6_begin, 2, none)
/-- 43: CornerTown$Reader.faultPlace()I -/
def mt_43 : gM := (yX6_faultPlace, cX6_faultPlace, 1, (some .int))
/-- 44: CornerTown$Reader.kindOf(I)I -/
def mt_44 : gM := (yX6_kindOf, cX6_kindOf, 1, (some .int))
/-- 45: CornerTown$Reader.goOn()V -/
def mt_45 : gM := (yX6_goOn, cX6_goOn, 1, none)
/-- 46: CornerTown$Reader.isWord(Ljava/lang/String;)Z -/
def mt_46 : gM := (yX6_isWord, cX6_isWord, 3, (some .boolean))
/-- 47: CornerTown$Reader.isSign(C)Z -/
def mt_47 : gM := (yX6_isSign, cX6_isSign, 2, (some .boolean))
/-- 48: CornerTown$Reader.emit(II)I -/
def mt_48 : gM := (yX6_emit, cX6_emit, 3, (some .int))
/-- 49: CornerTown$Reader.leadHere(II)V -/
def mt_49 : gM := (yX6_leadHere, cX6_leadHere, 3, none)
/-- 50: CornerTown$Reader.readClause(I)Z -/
def mt_50 : gM := (yX6_readClause, cX6_readClause, 3, (some .boolean))
/-- 51: CornerTown$Reader.readTest(I)Z -/
def mt_51 : gM := (yX6_readTest, cX6_readTest, 4, (some .boolean))
/-- 52: CornerTown$Reader.readBoth(I)Z -/
def mt_52 : gM := (yX6_readBoth, cX6_readBoth, 4, (some .boolean))
/-- 53: CornerTown$Reader.readPlain(I)Z -/
def mt_53 : gM := (yX6_readPlain, cX6_readPlain, 4, (some .boolean))
/-- 54: CornerTown$Reader.readBracketed(I)Z -/
def mt_54 : gM := (yX6_readBracketed, cX6_readBracketed, 2, (some .boolean))
/-- 55: CornerTown$Reader.readComparison(I)Z -/
def mt_55 : gM := (yX6_readComparison, cX6_readComparison, 3, (some .boolean))
/-- 56: CornerTown$Reader.readSum(I)Z -/
def mt_56 : gM := (yX6_readSum, cX6_readSum, 4, (some .boolean))
/-- 57: CornerTown$Reader.readTerm(I)Z -/
def mt_57 : gM := (yX6_readTerm, cX6_readTerm, 4, (some .boolean))
/-- 58: CornerTown$Reader.readPart(I)Z -/
def mt_58 : gM := (yX6_readPart, cX6_readPart, 4, (some .boolean))
/-- 59: CornerTown$Reader.readInner(I)Z -/
def mt_59 : gM := (yX6_readInner, cX6_readInner, 2, (some .boolean))
/-- 60: CornerTown$Reader.numberHere()I -/
def mt_60 : gM := (yX6_numberHere, cX6_numberHere, 3, (some .int))
/-- 61: CornerTown$Reader.wordHere()I -/
def mt_61 : gM := (yX6_wordHere, cX6_wordHere, 1, (some .int))
/-- 62: CornerTown$Reckoner.<init>()V -/
def mt_62 : gM := (yX7_init, cX7_init, 1, none)
/-- 63: CornerTown$Reckoner.tellVisit(LCornerTown$Town;IIII)V -/
def mt_63 : gM := (yX7_tellVisit, cX7_tellVisit, 6, none)
/-- 64: CornerTown$Reckoner.bars(LCornerTown$Law;)Z -/
def mt_64 : gM := (yX7_bars, cX7_bars, 3, (some .boolean))
/-- 65: CornerTown$Reckoner.takes(LCornerTown$Law;)I -/
def mt_65 : gM := (yX7_takes, cX7_takes, 3, (some .int))
/-- 66: CornerTown$Reckoner.holds(LCornerTown$Law;I)Z -/
def mt_66 : gM := (yX7_holds, cX7_holds, 8, (some .boolean))
/-- 67: CornerTown$Reckoner.push(J)V -/
def mt_67 : gM := (yX7_push, cX7_push, 3, none)
/-- 68: CornerTown$Reckoner.turn()V -/
def mt_68 : gM := (yX7_turn, cX7_turn, 1, none)
/-- 69: CornerTown$Reckoner.decides(I)Z -/
def mt_69 : gM := (yX7_decides, cX7_decides, 2, (some .boolean))
/-- 70: CornerTown$Reckoner.join(I)V -/
def mt_70 : gM := (yX7_join, cX7_join, 8, none)
/-- 71: CornerTown$Rounds.<init>(LCornerTown$Town;LCornerTown$Streets;)V -/
def mt_71 : gM := (yX8_init, cX8_init, 3, none)
/-- 72: CornerTown$Rounds.stopAt(I)I -/
def mt_72 : gM := (yX8_stopAt, cX8_stopAt, 2, (some .int))
/-- 73: CornerTown$Rounds.plan(II)Z -/
def mt_73 : gM := (yX8_plan, cX8_plan, 3, (some .boolean))
/-- 74: CornerTown$Rounds.isRound(II)Z -/
def mt_74 : gM := (yX8_isRound, cX8_isRound, 5, (some .boolean))
/-- 75: CornerTown$Rounds.listErrands(II)V -/
def mt_75 : gM := (yX8_listErrands, cX8_listErrands, 5, none)
/-- 76: CornerTown$Rounds.timeBetween(II)I -/
def mt_76 : gM := (yX8_timeBetween, cX8_timeBetween, 4, (some .int))
/-- 77: CornerTown$Rounds.leastAt(II)I -/
def mt_77 : gM := (yX8_leastAt, cX8_leastAt, 4, (some .int))
/-- 78: CornerTown$Rounds.fillLeast()V -/
def mt_78 : gM := (yX8_fillLeast, cX8_fillLeast, 4, none)
/-- 79: CornerTown$Rounds.leastFrom(II)I -/
def mt_79 : gM := (yX8_leastFrom, cX8_leastFrom, 5, (some .int))
/-- 80: CornerTown$Rounds.walk()V -/
def mt_80 : gM := (yX8_walk, cX8_walk, 5, none)
/-- 81: CornerTown$Rounds.nextErrand(II)I -/
def mt_81 : gM := (yX8_nextErrand, cX8_nextErrand, 5, (some .int))
/-- 82: CornerTown$Streets.<init>(LCornerTown$Town;)V -/
def mt_82 : gM := (yX9_init, cX9_init, 2, none)
/-- 83: CornerTown$Streets.lawBars(IIII)Z -/
def mt_83 : gM := (yX9_lawBars, cX9_lawBars, 6, (some .boolean))
/-- 84: CornerTown$Streets.isBarred(II)Z -/
def mt_84 : gM := (yX9_isBarred, cX9_isBarred, 3, (some .boolean))
/-- 85: CornerTown$Streets.timeOf(II)I -/
def mt_85 : gM := (yX9_timeOf, cX9_timeOf, 4, (some .int))
/-- 86: CornerTown$Streets.isOpen(III)Z -/
def mt_86 : gM := (yX9_isOpen, cX9_isOpen, 5, (some .boolean))
/-- 87: CornerTown$Streets.openRows()[I -/
def mt_87 : gM := (yX9_openRows, cX9_openRows, 1, (some (.array .int)))
/-- 88: CornerTown$Streets.fillOpen([II)V -/
def mt_88 : gM := (yX9_fillOpen, cX9_fillOpen, 5, none)
/-- 89: CornerTown$Streets.rowsByDoor()[I -/
def mt_89 : gM := (yX9_rowsByDoor, cX9_rowsByDoor, 2, (some (.array .int)))
/-- 90: CornerTown$Streets.rowByDoor(I)I -/
def mt_90 : gM := (yX9_rowByDoor, cX9_rowByDoor, 5, (some .int))
/-- 91: CornerTown$Streets.measure([I)V -/
def mt_91 : gM := (yX9_measure, cX9_measure, 5, none)
/-- 92: CornerTown$Streets.shortenBy(I)V -/
def mt_92 : gM := (yX9_shortenBy, cX9_shortenBy, 6, none)
/-- 93: CornerTown$Streets.cell(II)I -/
def mt_93 : gM := (yX9_cell, cX9_cell, 2, (some .int))
/-- 94: CornerTown$Streets.shortestTime(II)I -/
def mt_94 : gM := (yX9_shortestTime, cX9_shortestTime, 4, (some .int))
/-- 95: CornerTown$Streets.shortestVisits(II)I -/
def mt_95 : gM := (yX9_shortestVisits, cX9_shortestVisits, 4, (some .int))
/-- 96: CornerTown$Streets.stopOnWay(III)I -/
def mt_96 : gM := (yX9_stopOnWay, cX9_stopOnWay, 6, (some .int))
/-- 97: CornerTown$Streets.nextOnWay(II)I -/
def mt_97 : gM := (yX9_nextOnWay, cX9_nextOnWay, 5, (some .int))
/-- 98: CornerTown$Streets.meetingPlace(II)I -/
def mt_98 : gM := (yX9_meetingPlace, cX9_meetingPlace, 11, (some .int))
/-- 99: CornerTown$Town.<init>()V -/
def mt_99 : gM := (yX10_init, cX10_init, 1, none)
/-- 100: CornerTown$Town.has(I)Z -/
def mt_100 : gM := (yX10_has, cX10_has, 2, (some .boolean))
/-- 101: CornerTown$Town.areHouses(I)Z -/
def mt_101 : gM := (yX10_areHouses, cX10_areHouses, 2, (some .boolean))
/-- 102: CornerTown$Town.hasTwo(II)Z -/
def mt_102 : gM := (yX10_hasTwo, cX10_hasTwo, 3, (some .boolean))
/-- 103: CornerTown$Town.bothStand(II)Z -/
def mt_103 : gM := (yX10_bothStand, cX10_bothStand, 3, (some .boolean))
/-- 104: CornerTown$Town.lawInForce()LCornerTown$Law; -/
def mt_104 : gM := (yX10_lawInForce, cX10_lawInForce, 1, (some (.object "CornerTown$Law")))
/-- 105: CornerTown$Town.whyNoHouse(IIIII)I -/
def mt_105 : gM := (yX10_whyNoHouse, cX10_whyNoHouse, 8, (some .int))
/-- 106: CornerTown$Town.build(IIIII)I -/
def mt_106 : gM := (yX10_build, cX10_build, 7, (some .int))
/-- 107: CornerTown$Town.lies(III)Z -/
def mt_107 : gM := (yX10_lies, cX10_lies, 4, (some .boolean))
/-- 108: CornerTown$Town.meeting(IIIII)I -/
def mt_108 : gM := (yX10_meeting, cX10_meeting, 8, (some .int))
/-- 109: CornerTown$Town.touching(II)I -/
def mt_109 : gM := (yX10_touching, cX10_touching, 3, (some .int))
/-- 110: CornerTown$Town.suits(IIIIII)Z -/
def mt_110 : gM := (yX10_suits, cX10_suits, 11, (some .boolean))
/-- 111: CornerTown$Town.turnDoor(II)V -/
def mt_111 : gM := (yX10_turnDoor, cX10_turnDoor, 3, none)
/-- 112: CornerTown$Town.becomeLike(LCornerTown$Town;)V -/
def mt_112 : gM := (yX10_becomeLike, cX10_becomeLike, 3, none)
/-- 113: CornerTown.<init>()V -/
def mt_113 : gM := (yX11_init, cX11_init, 1, none)
/-- 114: CornerTown.house(IIIII)I -/
def mt_114 : gM := (yX11_house, cX11_house, 7, (some .int))
/-- 115: CornerTown.of(II)I -/
def mt_115 : gM := (yX11_of, cX11_of, 3, (some .int))
/-- 116: CornerTown.rank(II)I -/
def mt_116 : gM := (yX11_rank, cX11_rank, 4, (some .int))
/-- 117: CornerTown.stand(II)I -/
def mt_117 : gM := (yX11_stand, cX11_stand, 4, (some .int))
/-- 118: CornerTown.at(II)I -/
def mt_118 : gM := (yX11_at, cX11_at, 4, (some .int))
/-- 119: CornerTown.terms(II)I -/
def mt_119 : gM := (yX11_terms, cX11_terms, 4, (some .int))
/-- 120: CornerTown.door(II)I -/
def mt_120 : gM := (yX11_door, cX11_door, 3, (some .int))
/-- 121: CornerTown.wall(II)I -/
def mt_121 : gM := (yX11_wall, cX11_wall, 3, (some .int))
/-- 122: CornerTown.feed(IIIII)I -/
def mt_122 : gM := (yX11_feed, cX11_feed, 6, (some .int))
/-- 123: CornerTown.end(I)I -/
def mt_123 : gM := (yX11_end, cX11_end, 2, (some .int))
/-- 124: CornerTown.row()I -/
def mt_124 : gM := (yX11_row, cX11_row, 5, (some .int))
/-- 125: CornerTown.ruin()I -/
def mt_125 : gM := (yX11_ruin, cX11_ruin, 1, (some .int))
/-- 126: CornerTown.law()I -/
def mt_126 : gM := (yX11_law, cX11_law, 3, (some .int))
/-- 127: CornerTown.fault()I -/
def mt_127 : gM := (yX11_fault, cX11_fault, 1, (some .int))
/-- 128: CornerTown.force(I)I -/
def mt_128 : gM := (yX11_force, cX11_force, 3, (some .int))
/-- 129: CornerTown.touch(II)I -/
def mt_129 : gM := (yX11_touch, cX11_touch, 3, (some .int))
/-- 130: CornerTown.visit(III)I -/
def mt_130 : gM := (yX11_visit, cX11_visit, 4, (some .int))
/-- 131: CornerTown.visits(I)I -/
def mt_131 : gM := (yX11_visits, cX11_visits, 2, (some .int))
/-- 132: CornerTown.comes(III)I -/
def mt_132 : gM := (yX11_comes, cX11_comes, 4, (some .int))
/-- 133: CornerTown.way(III)I -/
def mt_133 : gM := (yX11_way, cX11_way, 4, (some .int))
/-- 134: CornerTown.parts(I)I -/
def mt_134 : gM := (yX11_parts, cX11_parts, 3, (some .int))
/-- 135: CornerTown.holders(II)I -/
def mt_135 : gM := (yX11_holders, cX11_holders, 3, (some .int))
/-- 136: CornerTown.cut(III)I -/
def mt_136 : gM := (yX11_cut, cX11_cut, 4, (some .int))
/-- 137: CornerTown.wish(III)I -/
def mt_137 : gM := (yX11_wish, cX11_wish, 4, (some .int))
/-- 138: CornerTown.clear()I -/
def mt_138 : gM := (yX11_clear, cX11_clear, 2, (some .int))
/-- 139: CornerTown.doors(I)I -/
def mt_139 : gM := (yX11_doors, cX11_doors, 2, (some .int))
/-- 140: CornerTown.news(II)I -/
def mt_140 : gM := (yX11_news, cX11_news, 3, (some .int))
/-- 141: CornerTown.log(II)I -/
def mt_141 : gM := (yX11_log, cX11_log, 3, (some .int))
/-- 142: CornerTown.forget()I -/
def mt_142 : gM := (yX11_forget, cX11_forget, 2, (some .int))
/-- 143: CornerTown.wrong(I)I -/
def mt_143 : gM := (yX11_wrong, cX11_wrong, 2, (some .int))
/-- 144: CornerTown.fits(II)I -/
def mt_144 : gM := (yX11_fits, cX11_fits, 3, (some .int))
/-- 145: CornerTown.round(II)I -/
def mt_145 : gM := (yX11_round, cX11_round, 3, (some .int))
/-- 146: CornerTown.stop(III)I -/
def mt_146 : gM := (yX11_stop, cX11_stop, 4, (some .int))
/-- 147: CornerTown.meet(III)I -/
def mt_147 : gM := (yX11_meet, cX11_meet, 5, (some .int))
/-- 148: CornerTown.site(IIIII)I -/
def mt_148 : gM := (yX11_site, cX11_site, 9, (some .int))
/-- 149: CornerTown.flood(II)I -/
def mt_149 : gM := (yX11_flood, cX11_flood, 3, (some .int))
/-- 150: CornerTown.flooded(II)I -/
def mt_150 : gM := (yX11_flooded, cX11_flooded, 3, (some .int))
/-- 151: CornerTown.image(I)I -/
def mt_151 : gM := (yX11_image, cX11_image, 2, (some .int))
/-- 152: CornerTown.back(I)I -/
def mt_152 : gM := (yX11_back, cX11_back, 2, (some .int))
/-- 153: CornerTown.count(I)I -/
def mt_153 : gM := (yX11_count, cX11_count, 2, (some .int))
/-- 154: CornerTown.status()I -/
def mt_154 : gM := (yX11_status, cX11_status, 1, (some .int))
/-- 155: CornerTown.accept(I)I -/
def mt_155 : gM := (yX11_accept, cX11_accept, 2, (some .int))
/-- 156: CornerTown.refuse(I)I -/
def mt_156 : gM := (yX11_refuse, cX11_refuse, 3, (some .int))
/-- 157: CornerTown.feedFour(I)V -/
def mt_157 : gM := (yX11_feedFour, cX11_feedFour, 3, none)
/-- 158: CornerTown.buildFrom(I)Z -/
def mt_158 : gM := (yX11_buildFrom, cX11_buildFrom, 7, (some .boolean))
/-- 159: CornerTown.keepPair(LCornerTown$Pairs;II)I -/
def mt_159 : gM := (yX11_keepPair, cX11_keepPair, 4, (some .int))
/-- 160: CornerTown.within(III)Z -/
def mt_160 : gM := (yX11_within, cX11_within, 3, (some .boolean))
/-- 161: CornerTown.bitOf(II)I -/
def mt_161 : gM := (yX11_bitOf, cX11_bitOf, 2, (some .int))
/-- 162: CornerTown.lowestOf(I)I -/
def mt_162 : gM := (yX11_lowestOf, cX11_lowestOf, 1, (some .int))
/-- 163: CornerTownModel.lies(III)Z -/
def mt_163 : gM := (yX12_lies, cX12_lies, 3, (some .boolean))
/-- 164: CornerTownModel.refuses(I)I -/
def mt_164 : gM := (yX12_refuses, cX12_refuses, 2, (some .int))
/-- 165: CornerTownModel.good(I)I -/
def mt_165 : gM := (yX12_good, cX12_good, 2, (some .int))
/-- 166: CornerTownModel.isIn(II)Z -/
def mt_166 : gM := (yX12_isIn, cX12_isIn, 2, (some .boolean))
/-- 167: CornerTownModel.ones(I)I -/
def mt_167 : gM := (yX12_ones, cX12_ones, 3, (some .int))
/-- 168: CornerTownModel.<init>()V -/
def mt_168 : gM := (yX12_init, cX12_init, 1, none)
/-- 169: CornerTownModel.image(I)I -/
def mt_169 : gM := (yX12_image, cX12_image, 3, (some .int))
/-- 170: CornerTownModel.back(I)I -/
def mt_170 : gM := (yX12_back, cX12_back, 3, (some .int))
/-- 171: CornerTownModel.houses()I -/
def mt_171 : gM := (yX12_houses, cX12_houses, 1, (some .int))
/-- 172: CornerTownModel.isHouse(I)Z -/
def mt_172 : gM := (yX12_isHouse, cX12_isHouse, 2, (some .boolean))
/-- 173: CornerTownModel.factOf(II)I -/
def mt_173 : gM := (yX12_factOf, cX12_factOf, 3, (some .int))
/-- 174: CornerTownModel.stands(I)Z -/
def mt_174 : gM := (yX12_stands, cX12_stands, 2, (some .boolean))
/-- 175: CornerTownModel.standing()I -/
def mt_175 : gM := (yX12_standing, cX12_standing, 3, (some .int))
/-- 176: CornerTownModel.has(III)Z -/
def mt_176 : gM := (yX12_has, cX12_has, 4, (some .boolean))
/-- 177: CornerTownModel.houseAt(II)I -/
def mt_177 : gM := (yX12_houseAt, cX12_houseAt, 4, (some .int))
/-- 178: CornerTownModel.canBe(IIII)Z -/
def mt_178 : gM := (yX12_canBe, cX12_canBe, 4, (some .boolean))
/-- 179: CornerTownModel.isFree(IIII)Z -/
def mt_179 : gM := (yX12_isFree, cX12_isFree, 6, (some .boolean))
/-- 180: CornerTownModel.adds(IIIII)I -/
def mt_180 : gM := (yX12_adds, cX12_adds, 8, (some .int))
/-- 181: CornerTownModel.house(IIIII)I -/
def mt_181 : gM := (yX12_house, cX12_house, 6, (some .int))
/-- 182: CornerTownModel.of(II)I -/
def mt_182 : gM := (yX12_of, cX12_of, 3, (some .int))
/-- 183: CornerTownModel.rank(II)I -/
def mt_183 : gM := (yX12_rank, cX12_rank, 4, (some .int))
/-- 184: CornerTownModel.stand(II)I -/
def mt_184 : gM := (yX12_stand, cX12_stand, 4, (some .int))
/-- 185: CornerTownModel.at(II)I -/
def mt_185 : gM := (yX12_at, cX12_at, 3, (some .int))
/-- 186: CornerTownModel.terms(II)I -/
def mt_186 : gM := (yX12_terms, cX12_terms, 4, (some .int))
/-- 187: CornerTownModel.hasDoor(II)Z -/
def mt_187 : gM := (yX12_hasDoor, cX12_hasDoor, 3, (some .boolean))
/-- 188: CornerTownModel.doorMany()I -/
def mt_188 : gM := (yX12_doorMany, cX12_doorMany, 4, (some .int))
/-- 189: CornerTownModel.setsDoor(III)V -/
def mt_189 : gM := (yX12_setsDoor, cX12_setsDoor, 4, none)
/-- 190: CornerTownModel.door(II)I -/
def mt_190 : gM := (yX12_door, cX12_door, 3, (some .int))
/-- 191: CornerTownModel.wall(II)I -/
def mt_191 : gM := (yX12_wall, cX12_wall, 3, (some .int))
/-- 192: CornerTownModel.row()I -/
def mt_192 : gM := (yX12_row, cX12_row, 5, (some .int))
/-- 193: CornerTownModel.ruin()I -/
def mt_193 : gM := (yX12_ruin, cX12_ruin, 1, (some .int))
/-- 194: CornerTownModel.feed(IIIII)I -/
def mt_194 : gM := (yX12_feed, cX12_feed, 7, (some .int))
/-- 195: CornerTownModel.end(I)I -/
def mt_195 : gM := (yX12_end, cX12_end, 2, (some .int))
/-- 196: CornerTownModel.isSmall(I)Z -/
def mt_196 : gM := (yX12_isSmall, cX12_isSmall, 1, (some .boolean))
/-- 197: CornerTownModel.isDigit(I)Z -/
def mt_197 : gM := (yX12_isDigit, cX12_isDigit, 1, (some .boolean))
/-- 198: CornerTownModel.wordOf(II)I -/
def mt_198 : gM := (yX12_wordOf, cX12_wordOf, 8, (some .int))
/-- 199: CornerTownModel.splits(I)V -/
def mt_199 : gM := (yX12_splits, cX12_splits, 6, none)
/-- 200: CornerTownModel.fine()Z -/
def mt_200 : gM := (yX12_fine, cX12_fine, 1, (some .boolean))
/-- 201: CornerTownModel.faults()V -/
def mt_201 : gM := (yX12_faults, cX12_faults, 1, none)
/-- 202: CornerTownModel.takes0(I)Z -/
def mt_202 : gM := (yX12_takes0, cX12_takes0, 3, (some .boolean))
/-- 203: CornerTownModel.must(I)V -/
def mt_203 : gM := (yX12_must, cX12_must, 2, none)
/-- 204: CornerTownModel.leaf()V -/
def mt_204 : gM := (yX12_leaf, cX12_leaf, 1, none)
/-- 205: CornerTownModel.sign(C)I -/
def mt_205 : gM := (yX12_sign, cX12_sign, 1, (some .int))
/-- 206: CornerTownModel.readClause()V -/
def mt_206 : gM := (yX12_readClause, cX12_readClause, 1, none)
/-- 207: CornerTownModel.readTest(I)V -/
def mt_207 : gM := (yX12_readTest, cX12_readTest, 2, none)
/-- 208: CornerTownModel.readBoth(I)V -/
def mt_208 : gM := (yX12_readBoth, cX12_readBoth, 2, none)
/-- 209: CornerTownModel.readPlain(I)V -/
def mt_209 : gM := (yX12_readPlain, cX12_readPlain, 4, none)
/-- 210: CornerTownModel.readSum(I)V -/
def mt_210 : gM := (yX12_readSum, cX12_readSum, 2, none)
/-- 211: CornerTownModel.readTerm(I)V -/
def mt_211 : gM := (yX12_readTerm, cX12_readTerm, 2, none)
/-- 212: CornerTownModel.readPart(I)V -/
def mt_212 : gM := (yX12_readPart, cX12_readPart, 3, none)
/-- 213: CornerTownModel.reads()Z -/
def mt_213 : gM := (yX12_reads, cX12_reads, 2, (some .boolean))
/-- 214: CornerTownModel.law()I -/
def mt_214 : gM := (yX12_law, cX12_law, 3, (some .int))
/-- 215: CornerTownModel.fault()I -/
def mt_215 : gM := (yX12_fault, cX12_fault, 1, (some .int))
/-- 216: CornerTownModel.force(I)I -/
def mt_216 : gM := (yX12_force, cX12_force, 3, (some .int))
/-- 217: CornerTownModel.codeAt(I)I -/
def mt_217 : gM := (yX12_codeAt, cX12_codeAt, 2, (some .int))
/-- 218: CornerTownModel.passes0(I)Z -/
def mt_218 : gM := (yX12_passes0, cX12_passes0, 3, (some .boolean))
/-- 219: CornerTownModel.bounded(JZ)J -/
def mt_219 : gM := (yX12_bounded, cX12_bounded, 4, (some .long))
/-- 220: CornerTownModel.sumOf(Z)J -/
def mt_220 : gM := (yX12_sumOf, cX12_sumOf, 7, (some .long))
/-- 221: CornerTownModel.termOf(Z)J -/
def mt_221 : gM := (yX12_termOf, cX12_termOf, 7, (some .long))
/-- 222: CornerTownModel.partOf(Z)J -/
def mt_222 : gM := (yX12_partOf, cX12_partOf, 4, (some .long))
/-- 223: CornerTownModel.testOf(Z)Z -/
def mt_223 : gM := (yX12_testOf, cX12_testOf, 4, (some .boolean))
/-- 224: CornerTownModel.bothOf(Z)Z -/
def mt_224 : gM := (yX12_bothOf, cX12_bothOf, 4, (some .boolean))
/-- 225: CornerTownModel.plainOf(Z)Z -/
def mt_225 : gM := (yX12_plainOf, cX12_plainOf, 3, (some .boolean))
/-- 226: CornerTownModel.positiveOf(Z)Z -/
def mt_226 : gM := (yX12_positiveOf, cX12_positiveOf, 7, (some .boolean))
/-- 227: CornerTownModel.asksOf(IIII)V -/
def mt_227 : gM := (yX12_asksOf, cX12_asksOf, 10, none)
/-- 228: CornerTownModel.meet0(IIII)Z -/
def mt_228 : gM := (yX12_meet0, cX12_meet0, 4, (some .boolean))
/-- 229: CornerTownModel.overlap(IIII)Z -/
def mt_229 : gM := (yX12_overlap, cX12_overlap, 4, (some .boolean))
/-- 230: CornerTownModel.touchOf(IIIII)I -/
def mt_230 : gM := (yX12_touchOf, cX12_touchOf, 10, (some .int))
/-- 231: CornerTownModel.touching(II)I -/
def mt_231 : gM := (yX12_touching, cX12_touching, 3, (some .int))
/-- 232: CornerTownModel.touch(II)I -/
def mt_232 : gM := (yX12_touch, cX12_touch, 3, (some .int))
/-- 233: CornerTownModel.laysVisits(I)V -/
def mt_233 : gM := (yX12_laysVisits, cX12_laysVisits, 5, none)
/-- 234: CornerTownModel.looks()V -/
def mt_234 : gM := (yX12_looks, cX12_looks, 1, none)
/-- 235: CornerTownModel.visit(III)I -/
def mt_235 : gM := (yX12_visit, cX12_visit, 4, (some .int))
/-- 236: CornerTownModel.visits(I)I -/
def mt_236 : gM := (yX12_visits, cX12_visits, 2, (some .int))
/-- 237: CornerTownModel.nexts(I)I -/
def mt_237 : gM := (yX12_nexts, cX12_nexts, 3, (some .int))
/-- 238: CornerTownModel.withOr(III)I -/
def mt_238 : gM := (yX12_withOr, cX12_withOr, 4, (some .int))
/-- 239: CornerTownModel.reach(II)I -/
def mt_239 : gM := (yX12_reach, cX12_reach, 6, (some .int))
/-- 240: CornerTownModel.come(III)Z -/
def mt_240 : gM := (yX12_come, cX12_come, 4, (some .boolean))
/-- 241: CornerTownModel.countsWays(I)V -/
def mt_241 : gM := (yX12_countsWays, cX12_countsWays, 5, none)
/-- 242: CornerTownModel.distances(I)V -/
def mt_242 : gM := (yX12_distances, cX12_distances, 6, none)
/-- 243: CornerTownModel.comes(III)I -/
def mt_243 : gM := (yX12_comes, cX12_comes, 4, (some .int))
/-- 244: CornerTownModel.way(III)I -/
def mt_244 : gM := (yX12_way, cX12_way, 8, (some .int))
/-- 245: CornerTownModel.partsOf(I)V -/
def mt_245 : gM := (yX12_partsOf, cX12_partsOf, 7, none)
/-- 246: CornerTownModel.parts(I)I -/
def mt_246 : gM := (yX12_parts, cX12_parts, 2, (some .int))
/-- 247: CornerTownModel.holders(II)I -/
def mt_247 : gM := (yX12_holders, cX12_holders, 5, (some .int))
/-- 248: CornerTownModel.cut(III)I -/
def mt_248 : gM := (yX12_cut, cX12_cut, 9, (some .int))
/-- 249: CornerTownModel.wish(III)I -/
def mt_249 : gM := (yX12_wish, cX12_wish, 6, (some .int))
/-- 250: CornerTownModel.clear()I -/
def mt_250 : gM := (yX12_clear, cX12_clear, 2, (some .int))
/-- 251: CornerTownModel.isWished()Z -/
def mt_251 : gM := (yX12_isWished, cX12_isWished, 2, (some .boolean))
/-- 252: CornerTownModel.found(I)V -/
def mt_252 : gM := (yX12_found, cX12_found, 2, none)
/-- 253: CornerTownModel.isPair(I)Z -/
def mt_253 : gM := (yX12_isPair, cX12_isPair, 2, (some .boolean))
/-- 254: CornerTownModel.seeksDoors()V -/
def mt_254 : gM := (yX12_seeksDoors, cX12_seeksDoors, 4, none)
/-- 255: CornerTownModel.doors(I)I -/
def mt_255 : gM := (yX12_doors, cX12_doors, 2, (some .int))
/-- 256: CornerTownModel.spreads(I)V -/
def mt_256 : gM := (yX12_spreads, cX12_spreads, 6, none)
/-- 257: CornerTownModel.news(II)I -/
def mt_257 : gM := (yX12_news, cX12_news, 3, (some .int))
/-- 258: CornerTownModel.log(II)I -/
def mt_258 : gM := (yX12_log, cX12_log, 4, (some .int))
/-- 259: CornerTownModel.forget()I -/
def mt_259 : gM := (yX12_forget, cX12_forget, 2, (some .int))
/-- 260: CornerTownModel.wrongs(I)I -/
def mt_260 : gM := (yX12_wrongs, cX12_wrongs, 4, (some .int))
/-- 261: CornerTownModel.wrong(I)I -/
def mt_261 : gM := (yX12_wrong, cX12_wrong, 2, (some .int))
/-- 262: CornerTownModel.fits(II)I -/
def mt_262 : gM := (yX12_fits, cX12_fits, 6, (some .int))
/-- 263: CornerTownModel.laysBetween()V -/
def mt_263 : gM := (yX12_laysBetween, cX12_laysBetween, 3, none)
/-- 264: CornerTownModel.canRound(II)Z -/
def mt_264 : gM := (yX12_canRound, cX12_canRound, 3, (some .boolean))
/-- 265: CornerTownModel.least(II)I -/
def mt_265 : gM := (yX12_least, cX12_least, 8, (some .int))
/-- 266: CornerTownModel.round(II)I -/
def mt_266 : gM := (yX12_round, cX12_round, 4, (some .int))
/-- 267: CornerTownModel.stop(III)I -/
def mt_267 : gM := (yX12_stop, cX12_stop, 8, (some .int))
/-- 268: CornerTownModel.meet(III)I -/
def mt_268 : gM := (yX12_meet, cX12_meet, 11, (some .int))
/-- 269: CornerTownModel.site(IIIII)I -/
def mt_269 : gM := (yX12_site, cX12_site, 14, (some .int))
/-- 270: CornerTownModel.draws(I)I -/
def mt_270 : gM := (yX12_draws, cX12_draws, 2, (some .int))
/-- 271: CornerTownModel.flood(II)I -/
def mt_271 : gM := (yX12_flood, cX12_flood, 7, (some .int))
/-- 272: CornerTownModel.flooded(II)I -/
def mt_272 : gM := (yX12_flooded, cX12_flooded, 3, (some .int))
/-- 273: CornerTownModel.count(I)I -/
def mt_273 : gM := (yX12_count, cX12_count, 2, (some .int))
/-- 274: CornerTownModel.status()I -/
def mt_274 : gM := (yX12_status, cX12_status, 1, (some .int))
/-- 275: java/lang/Integer.bitCount(I)I -/
def mt_275 : gM := (yJ6_bitCount_0f7a4, cJ6_bitCount_0f7a4, 1, (some .int))
/-- 276: java/lang/String.length()I -/
def mt_276 : gM := (yJ0_length_8abf5, cJ0_length_8abf5, 1, (some .int))
/-- 277: java/lang/String.charAt(I)C -/
def mt_277 : gM := (yJ0_charAt_5068e, cJ0_charAt_5068e, 2, (some .char))
/-- 278: java/lang/String.coder()B -/
def mt_278 : gM := (yJ0_coder_7d493, cJ0_coder_7d493, 1, (some .byte))
/-- 279: java/lang/String.isLatin1()Z -/
def mt_279 : gM := (yJ0_isLatin1_aae02, cJ0_isLatin1_aae02, 1, (some .boolean))
/-- 280: java/lang/String.checkIndex(II)V -/
def mt_280 : gM := (yJ0_checkIndex_df160, cJ0_checkIndex_df160, 2, none)
/-- 281: java/lang/StringLatin1.charAt([BI)C -/
def mt_281 : gM := (yJ1_charAt_3b067, cJ1_charAt_3b067, 2, (some .char))
/-- 282: java/util/Arrays.fill([II)V -/
def mt_282 : gM := (yJ7_fill_53178, cJ7_fill_53178, 4, none)
/-- 283: java/util/Arrays.copyOf([II)[I -/
def mt_283 : gM := (yJ7_copyOf_59c91, cJ7_copyOf_59c91, 3, (some (.array .int)))
/-- 284: jdk/internal/util/Preconditions.checkIndex(IILjava/util/function/BiFunction;)I -/
def mt_284 : gM := (yJ3_checkIndex_8e157, cJ3_checkIndex_8e157, 3, (some .int))
def gMT (i : Nat) : gM := bif Nat.blt i 285 then (bif Nat.blt i 142 then (bif Nat.blt i 71 then (bif Nat.blt i 35 then (bif Nat.blt i 17 then (bif Nat.blt i 8 then (bif Nat.blt i 4 then (bif Nat.blt i 2 then (bif Nat.blt i 1 then mt_0 else mt_1) else (bif Nat.blt i 3 then mt_2 else mt_3)) else (bif Nat.blt i 6 then (bif Nat.blt i 5 then mt_4 else mt_5) else (bif Nat.blt i 7 then mt_6 else mt_7))) else (bif Nat.blt i 12 then (bif Nat.blt i 10 then (bif Nat.blt i 9 then mt_8 else mt_9) else (bif Nat.blt i 11 then mt_10 else mt_11)) else (bif Nat.blt i 14 then (bif Nat.blt i 13 then mt_12 else mt_13) else (bif Nat.blt i 15 then mt_14 else (bif Nat.blt i 16 then mt_15 else mt_16))))) else (bif Nat.blt i 26 then (bif Nat.blt i 21 then (bif Nat.blt i 19 then (bif Nat.blt i 18 then mt_17 else mt_18) else (bif Nat.blt i 20 then mt_19 else mt_20)) else (bif Nat.blt i 23 then (bif Nat.blt i 22 then mt_21 else mt_22) else (bif Nat.blt i 24 then mt_23 else (bif Nat.blt i 25 then mt_24 else mt_25)))) else (bif Nat.blt i 30 then (bif Nat.blt i 28 then (bif Nat.blt i 27 then mt_26 else mt_27) else (bif Nat.blt i 29 then mt_28 else mt_29)) else (bif Nat.blt i 32 then (bif Nat.blt i 31 then mt_30 else mt_31) else (bif Nat.blt i 33 then mt_32 else (bif Nat.blt i 34 then mt_33 else mt_34)))))) else (bif Nat.blt i 53 then (bif Nat.blt i 44 then (bif Nat.blt i 39 then (bif Nat.blt i 37 then (bif Nat.blt i 36 then mt_35 else mt_36) else (bif Nat.blt i 38 then mt_37 else mt_38)) else (bif Nat.blt i 41 then (bif Nat.blt i 40 then mt_39 else mt_40) else (bif Nat.blt i 42 then mt_41 else (bif Nat.blt i 43 then mt_42 else mt_43)))) else (bif Nat.blt i 48 then (bif Nat.blt i 46 then (bif Nat.blt i 45 then mt_44 else mt_45) else (bif Nat.blt i 47 then mt_46 else mt_47)) else (bif Nat.blt i 50 then (bif Nat.blt i 49 then mt_48 else mt_49) else (bif Nat.blt i 51 then mt_50 else (bif Nat.blt i 52 then mt_51 else mt_52))))) else (bif Nat.blt i 62 then (bif Nat.blt i 57 then (bif Nat.blt i 55 then (bif Nat.blt i 54 then mt_53 else mt_54) else (bif Nat.blt i 56 then mt_55 else mt_56)) else (bif Nat.blt i 59 then (bif Nat.blt i 58 then mt_57 else mt_58) else (bif Nat.blt i 60 then mt_59 else (bif Nat.blt i 61 then mt_60 else mt_61)))) else (bif Nat.blt i 66 then (bif Nat.blt i 64 then (bif Nat.blt i 63 then mt_62 else mt_63) else (bif Nat.blt i 65 then mt_64 else mt_65)) else (bif Nat.blt i 68 then (bif Nat.blt i 67 then mt_66 else mt_67) else (bif Nat.blt i 69 then mt_68 else (bif Nat.blt i 70 then mt_69 else mt_70))))))) else (bif Nat.blt i 106 then (bif Nat.blt i 88 then (bif Nat.blt i 79 then (bif Nat.blt i 75 then (bif Nat.blt i 73 then (bif Nat.blt i 72 then mt_71 else mt_72) else (bif Nat.blt i 74 then mt_73 else mt_74)) else (bif Nat.blt i 77 then (bif Nat.blt i 76 then mt_75 else mt_76) else (bif Nat.blt i 78 then mt_77 else mt_78))) else (bif Nat.blt i 83 then (bif Nat.blt i 81 then (bif Nat.blt i 80 then mt_79 else mt_80) else (bif Nat.blt i 82 then mt_81 else mt_82)) else (bif Nat.blt i 85 then (bif Nat.blt i 84 then mt_83 else mt_84) else (bif Nat.blt i 86 then mt_85 else (bif Nat.blt i 87 then mt_86 else mt_87))))) else (bif Nat.blt i 97 then (bif Nat.blt i 92 then (bif Nat.blt i 90 then (bif Nat.blt i 89 then mt_88 else mt_89) else (bif Nat.blt i 91 then mt_90 else mt_91)) else (bif Nat.blt i 94 then (bif Nat.blt i 93 then mt_92 else mt_93) else (bif Nat.blt i 95 then mt_94 else (bif Nat.blt i 96 then mt_95 else mt_96)))) else (bif Nat.blt i 101 then (bif Nat.blt i 99 then (bif Nat.blt i 98 then mt_97 else mt_98) else (bif Nat.blt i 100 then mt_99 else mt_100)) else (bif Nat.blt i 103 then (bif Nat.blt i 102 then mt_101 else mt_102) else (bif Nat.blt i 104 then mt_103 else (bif Nat.blt i 105 then mt_104 else mt_105)))))) else (bif Nat.blt i 124 then (bif Nat.blt i 115 then (bif Nat.blt i 110 then (bif Nat.blt i 108 then (bif Nat.blt i 107 then mt_106 else mt_107) else (bif Nat.blt i 109 then mt_108 else mt_109)) else (bif Nat.blt i 112 then (bif Nat.blt i 111 then mt_110 else mt_111) else (bif Nat.blt i 113 then mt_112 else (bif Nat.blt i 114 then mt_113 else mt_114)))) else (bif Nat.blt i 119 then (bif Nat.blt i 117 then (bif Nat.blt i 116 then mt_115 else mt_116) else (bif Nat.blt i 118 then mt_117 else mt_118)) else (bif Nat.blt i 121 then (bif Nat.blt i 120 then mt_119 else mt_120) else (bif Nat.blt i 122 then mt_121 else (bif Nat.blt i 123 then mt_122 else mt_123))))) else (bif Nat.blt i 133 then (bif Nat.blt i 128 then (bif Nat.blt i 126 then (bif Nat.blt i 125 then mt_124 else mt_125) else (bif Nat.blt i 127 then mt_126 else mt_127)) else (bif Nat.blt i 130 then (bif Nat.blt i 129 then mt_128 else mt_129) else (bif Nat.blt i 131 then mt_130 else (bif Nat.blt i 132 then mt_131 else mt_132)))) else (bif Nat.blt i 137 then (bif Nat.blt i 135 then (bif Nat.blt i 134 then mt_133 else mt_134) else (bif Nat.blt i 136 then mt_135 else mt_136)) else (bif Nat.blt i 139 then (bif Nat.blt i 138 then mt_137 else mt_138) else (bif Nat.blt i 140 then mt_139 else (bif Nat.blt i 141 then mt_140 else mt_141)))))))) else (bif Nat.blt i 213 then (bif Nat.blt i 177 then (bif Nat.blt i 159 then (bif Nat.blt i 150 then (bif Nat.blt i 146 then (bif Nat.blt i 144 then (bif Nat.blt i 143 then mt_142 else mt_143) else (bif Nat.blt i 145 then mt_144 else mt_145)) else (bif Nat.blt i 148 then (bif Nat.blt i 147 then mt_146 else mt_147) else (bif Nat.blt i 149 then mt_148 else mt_149))) else (bif Nat.blt i 154 then (bif Nat.blt i 152 then (bif Nat.blt i 151 then mt_150 else mt_151) else (bif Nat.blt i 153 then mt_152 else mt_153)) else (bif Nat.blt i 156 then (bif Nat.blt i 155 then mt_154 else mt_155) else (bif Nat.blt i 157 then mt_156 else (bif Nat.blt i 158 then mt_157 else mt_158))))) else (bif Nat.blt i 168 then (bif Nat.blt i 163 then (bif Nat.blt i 161 then (bif Nat.blt i 160 then mt_159 else mt_160) else (bif Nat.blt i 162 then mt_161 else mt_162)) else (bif Nat.blt i 165 then (bif Nat.blt i 164 then mt_163 else mt_164) else (bif Nat.blt i 166 then mt_165 else (bif Nat.blt i 167 then mt_166 else mt_167)))) else (bif Nat.blt i 172 then (bif Nat.blt i 170 then (bif Nat.blt i 169 then mt_168 else mt_169) else (bif Nat.blt i 171 then mt_170 else mt_171)) else (bif Nat.blt i 174 then (bif Nat.blt i 173 then mt_172 else mt_173) else (bif Nat.blt i 175 then mt_174 else (bif Nat.blt i 176 then mt_175 else mt_176)))))) else (bif Nat.blt i 195 then (bif Nat.blt i 186 then (bif Nat.blt i 181 then (bif Nat.blt i 179 then (bif Nat.blt i 178 then mt_177 else mt_178) else (bif Nat.blt i 180 then mt_179 else mt_180)) else (bif Nat.blt i 183 then (bif Nat.blt i 182 then mt_181 else mt_182) else (bif Nat.blt i 184 then mt_183 else (bif Nat.blt i 185 then mt_184 else mt_185)))) else (bif Nat.blt i 190 then (bif Nat.blt i 188 then (bif Nat.blt i 187 then mt_186 else mt_187) else (bif Nat.blt i 189 then mt_188 else mt_189)) else (bif Nat.blt i 192 then (bif Nat.blt i 191 then mt_190 else mt_191) else (bif Nat.blt i 193 then mt_192 else (bif Nat.blt i 194 then mt_193 else mt_194))))) else (bif Nat.blt i 204 then (bif Nat.blt i 199 then (bif Nat.blt i 197 then (bif Nat.blt i 196 then mt_195 else mt_196) else (bif Nat.blt i 198 then mt_197 else mt_198)) else (bif Nat.blt i 201 then (bif Nat.blt i 200 then mt_199 else mt_200) else (bif Nat.blt i 202 then mt_201 else (bif Nat.blt i 203 then mt_202 else mt_203)))) else (bif Nat.blt i 208 then (bif Nat.blt i 206 then (bif Nat.blt i 205 then mt_204 else mt_205) else (bif Nat.blt i 207 then mt_206 else mt_207)) else (bif Nat.blt i 210 then (bif Nat.blt i 209 then mt_208 else mt_209) else (bif Nat.blt i 211 then mt_210 else (bif Nat.blt i 212 then mt_211 else mt_212))))))) else (bif Nat.blt i 249 then (bif Nat.blt i 231 then (bif Nat.blt i 222 then (bif Nat.blt i 217 then (bif Nat.blt i 215 then (bif Nat.blt i 214 then mt_213 else mt_214) else (bif Nat.blt i 216 then mt_215 else mt_216)) else (bif Nat.blt i 219 then (bif Nat.blt i 218 then mt_217 else mt_218) else (bif Nat.blt i 220 then mt_219 else (bif Nat.blt i 221 then mt_220 else mt_221)))) else (bif Nat.blt i 226 then (bif Nat.blt i 224 then (bif Nat.blt i 223 then mt_222 else mt_223) else (bif Nat.blt i 225 then mt_224 else mt_225)) else (bif Nat.blt i 228 then (bif Nat.blt i 227 then mt_226 else mt_227) else (bif Nat.blt i 229 then mt_228 else (bif Nat.blt i 230 then mt_229 else mt_230))))) else (bif Nat.blt i 240 then (bif Nat.blt i 235 then (bif Nat.blt i 233 then (bif Nat.blt i 232 then mt_231 else mt_232) else (bif Nat.blt i 234 then mt_233 else mt_234)) else (bif Nat.blt i 237 then (bif Nat.blt i 236 then mt_235 else mt_236) else (bif Nat.blt i 238 then mt_237 else (bif Nat.blt i 239 then mt_238 else mt_239)))) else (bif Nat.blt i 244 then (bif Nat.blt i 242 then (bif Nat.blt i 241 then mt_240 else mt_241) else (bif Nat.blt i 243 then mt_242 else mt_243)) else (bif Nat.blt i 246 then (bif Nat.blt i 245 then mt_244 else mt_245) else (bif Nat.blt i 247 then mt_246 else (bif Nat.blt i 248 then mt_247 else mt_248)))))) else (bif Nat.blt i 267 then (bif Nat.blt i 258 then (bif Nat.blt i 253 then (bif Nat.blt i 251 then (bif Nat.blt i 250 then mt_249 else mt_250) else (bif Nat.blt i 252 then mt_251 else mt_252)) else (bif Nat.blt i 255 then (bif Nat.blt i 254 then mt_253 else mt_254) else (bif Nat.blt i 256 then mt_255 else (bif Nat.blt i 257 then mt_256 else mt_257)))) else (bif Nat.blt i 262 then (bif Nat.blt i 260 then (bif Nat.blt i 259 then mt_258 else mt_259) else (bif Nat.blt i 261 then mt_260 else mt_261)) else (bif Nat.blt i 264 then (bif Nat.blt i 263 then mt_262 else mt_263) else (bif Nat.blt i 265 then mt_264 else (bif Nat.blt i 266 then mt_265 else mt_266))))) else (bif Nat.blt i 276 then (bif Nat.blt i 271 then (bif Nat.blt i 269 then (bif Nat.blt i 268 then mt_267 else mt_268) else (bif Nat.blt i 270 then mt_269 else mt_270)) else (bif Nat.blt i 273 then (bif Nat.blt i 272 then mt_271 else mt_272) else (bif Nat.blt i 274 then mt_273 else (bif Nat.blt i 275 then mt_274 else mt_275)))) else (bif Nat.blt i 280 then (bif Nat.blt i 278 then (bif Nat.blt i 277 then mt_276 else mt_277) else (bif Nat.blt i 279 then mt_278 else mt_279)) else (bif Nat.blt i 282 then (bif Nat.blt i 281 then mt_280 else mt_281) else (bif Nat.blt i 283 then mt_282 else (bif Nat.blt i 284 then mt_283 else mt_284))))))))) else gM0
theorem mtj_0 : gMT 0 = (yX0_init, cX0_init, 2, none) := rfl
theorem mtj_1 : gMT 1 = (yX0_reach, cX0_reach, 8, (some .int)) := rfl
theorem mtj_2 : gMT 2 = (yX0_putPair, cX0_putPair, 6, none) := rfl
theorem mtj_3 : gMT 3 = (yX0_countWays, cX0_countWays, 7, none) := rfl
theorem mtj_4 : gMT 4 = (yX0_spread, cX0_spread, 8, (some .int)) := rfl
theorem mtj_5 : gMT 5 = (yX0_findParts, cX0_findParts, 6, (some .int)) := rfl
theorem mtj_6 : gMT 6 = (yX0_partOf, cX0_partOf, 4, (some .int)) := rfl
theorem mtj_7 : gMT 7 = (yX0_partAt, cX0_partAt, 2, (some .int)) := rfl
theorem mtj_8 : gMT 8 = (yX0_meets, cX0_meets, 4, (some .boolean)) := rfl
theorem mtj_9 : gMT 9 = (yX0_holdersBetween, cX0_holdersBetween, 6, (some .int)) := rfl
theorem mtj_10 : gMT 10 = (yX0_findCut, cX0_findCut, 9, none) := rfl
theorem mtj_11 : gMT 11 = (yX1_init, cX1_init, 2, none) := rfl
theorem mtj_12 : gMT 12 = (yX1_pickedHouse, cX1_pickedHouse, 2, (some .int)) := rfl
theorem mtj_13 : gMT 13 = (yX1_search, cX1_search, 4, none) := rfl
theorem mtj_14 : gMT 14 = (yX1_listPairs, cX1_listPairs, 6, none) := rfl
theorem mtj_15 : gMT 15 = (yX1_tryOne, cX1_tryOne, 4, none) := rfl
theorem mtj_16 : gMT 16 = (yX1_tryTwo, cX1_tryTwo, 5, none) := rfl
theorem mtj_17 : gMT 17 = (yX1_keepFirst, cX1_keepFirst, 4, none) := rfl
theorem mtj_18 : gMT 18 = (yX1_allMeet, cX1_allMeet, 1, (some .boolean)) := rfl
theorem mtj_19 : gMT 19 = (yX1_allAre, cX1_allAre, 5, (some .boolean)) := rfl
theorem mtj_20 : gMT 20 = (yX2_init, cX2_init, 4, none) := rfl
theorem mtj_21 : gMT 21 = (yX2_tell, cX2_tell, 3, (some .int)) := rfl
theorem mtj_22 : gMT 22 = (yX2_rise, cX2_rise, 7, (some .int)) := rfl
theorem mtj_23 : gMT 23 = (yX2_drawWater, cX2_drawWater, 3, (some .int)) := rfl
theorem mtj_24 : gMT 24 = (yX3_init, cX3_init, 8, none) := rfl
theorem mtj_25 : gMT 25 = (yX3_stepAt, cX3_stepAt, 2, (some .int)) := rfl
theorem mtj_26 : gMT 26 = (yX3_startOf, cX3_startOf, 2, (some .int)) := rfl
theorem mtj_27 : gMT 27 = (yX3_endOf, cX3_endOf, 2, (some .int)) := rfl
theorem mtj_28 : gMT 28 = (yX3_isTakes, cX3_isTakes, 2, (some .boolean)) := rfl
theorem mtj_29 : gMT 29 = (yX3_isTested, cX3_isTested, 2, (some .boolean)) := rfl
theorem mtj_30 : gMT 30 = (yX4_init, cX4_init, 2, none) := rfl
theorem mtj_31 : gMT 31 = (yX4_firstDay, cX4_firstDay, 4, (some .int)) := rfl
theorem mtj_32 : gMT 32 = (yX4_goRound, cX4_goRound, 8, none) := rfl
theorem mtj_33 : gMT 33 = (yX4_wrongLogs, cX4_wrongLogs, 6, (some .int)) := rfl
theorem mtj_34 : gMT 34 = (yX4_seekDoor, cX4_seekDoor, 6, none) := rfl
theorem mtj_35 : gMT 35 = (yX4_tryDoor, cX4_tryDoor, 4, none) := rfl
theorem mtj_36 : gMT 36 = (yX5_init, cX5_init, 2, none) := rfl
theorem mtj_37 : gMT 37 = (yX5_isFull, cX5_isFull, 1, (some .boolean)) := rfl
theorem mtj_38 : gMT 38 = (yX5_keep, cX5_keep, 3, none) := rfl
theorem mtj_39 : gMT 39 = (yX5_becomeLike, cX5_becomeLike, 3, none) := rfl
theorem mtj_40 : gMT 40 = (yX6_init, cX6_init, 2, none) := rfl
theorem mtj_41 : gMT 41 = (yX6_read, cX6_read, 3, (some (.object "CornerTown$Law"))) := rfl
theorem mtj_42 : gMT 42 = (yX6_begin, cX6_begin, 2, none) := rfl
theorem mtj_43 : gMT 43 = (yX6_faultPlace, cX6_faultPlace, 1, (some .int)) := rfl
theorem mtj_44 : gMT 44 = (yX6_kindOf, cX6_kindOf, 1, (some .int)) := rfl
theorem mtj_45 : gMT 45 = (yX6_goOn, cX6_goOn, 1, none) := rfl
theorem mtj_46 : gMT 46 = (yX6_isWord, cX6_isWord, 3, (some .boolean)) := rfl
theorem mtj_47 : gMT 47 = (yX6_isSign, cX6_isSign, 2, (some .boolean)) := rfl
theorem mtj_48 : gMT 48 = (yX6_emit, cX6_emit, 3, (some .int)) := rfl
theorem mtj_49 : gMT 49 = (yX6_leadHere, cX6_leadHere, 3, none) := rfl
theorem mtj_50 : gMT 50 = (yX6_readClause, cX6_readClause, 3, (some .boolean)) := rfl
theorem mtj_51 : gMT 51 = (yX6_readTest, cX6_readTest, 4, (some .boolean)) := rfl
theorem mtj_52 : gMT 52 = (yX6_readBoth, cX6_readBoth, 4, (some .boolean)) := rfl
theorem mtj_53 : gMT 53 = (yX6_readPlain, cX6_readPlain, 4, (some .boolean)) := rfl
theorem mtj_54 : gMT 54 = (yX6_readBracketed, cX6_readBracketed, 2, (some .boolean)) := rfl
theorem mtj_55 : gMT 55 = (yX6_readComparison, cX6_readComparison, 3, (some .boolean)) := rfl
theorem mtj_56 : gMT 56 = (yX6_readSum, cX6_readSum, 4, (some .boolean)) := rfl
theorem mtj_57 : gMT 57 = (yX6_readTerm, cX6_readTerm, 4, (some .boolean)) := rfl
theorem mtj_58 : gMT 58 = (yX6_readPart, cX6_readPart, 4, (some .boolean)) := rfl
theorem mtj_59 : gMT 59 = (yX6_readInner, cX6_readInner, 2, (some .boolean)) := rfl
theorem mtj_60 : gMT 60 = (yX6_numberHere, cX6_numberHere, 3, (some .int)) := rfl
theorem mtj_61 : gMT 61 = (yX6_wordHere, cX6_wordHere, 1, (some .int)) := rfl
theorem mtj_62 : gMT 62 = (yX7_init, cX7_init, 1, none) := rfl
theorem mtj_63 : gMT 63 = (yX7_tellVisit, cX7_tellVisit, 6, none) := rfl
theorem mtj_64 : gMT 64 = (yX7_bars, cX7_bars, 3, (some .boolean)) := rfl
theorem mtj_65 : gMT 65 = (yX7_takes, cX7_takes, 3, (some .int)) := rfl
theorem mtj_66 : gMT 66 = (yX7_holds, cX7_holds, 8, (some .boolean)) := rfl
theorem mtj_67 : gMT 67 = (yX7_push, cX7_push, 3, none) := rfl
theorem mtj_68 : gMT 68 = (yX7_turn, cX7_turn, 1, none) := rfl
theorem mtj_69 : gMT 69 = (yX7_decides, cX7_decides, 2, (some .boolean)) := rfl
theorem mtj_70 : gMT 70 = (yX7_join, cX7_join, 8, none) := rfl
theorem mtj_71 : gMT 71 = (yX8_init, cX8_init, 3, none) := rfl
theorem mtj_72 : gMT 72 = (yX8_stopAt, cX8_stopAt, 2, (some .int)) := rfl
theorem mtj_73 : gMT 73 = (yX8_plan, cX8_plan, 3, (some .boolean)) := rfl
theorem mtj_74 : gMT 74 = (yX8_isRound, cX8_isRound, 5, (some .boolean)) := rfl
theorem mtj_75 : gMT 75 = (yX8_listErrands, cX8_listErrands, 5, none) := rfl
theorem mtj_76 : gMT 76 = (yX8_timeBetween, cX8_timeBetween, 4, (some .int)) := rfl
theorem mtj_77 : gMT 77 = (yX8_leastAt, cX8_leastAt, 4, (some .int)) := rfl
theorem mtj_78 : gMT 78 = (yX8_fillLeast, cX8_fillLeast, 4, none) := rfl
theorem mtj_79 : gMT 79 = (yX8_leastFrom, cX8_leastFrom, 5, (some .int)) := rfl
theorem mtj_80 : gMT 80 = (yX8_walk, cX8_walk, 5, none) := rfl
theorem mtj_81 : gMT 81 = (yX8_nextErrand, cX8_nextErrand, 5, (some .int)) := rfl
theorem mtj_82 : gMT 82 = (yX9_init, cX9_init, 2, none) := rfl
theorem mtj_83 : gMT 83 = (yX9_lawBars, cX9_lawBars, 6, (some .boolean)) := rfl
theorem mtj_84 : gMT 84 = (yX9_isBarred, cX9_isBarred, 3, (some .boolean)) := rfl
theorem mtj_85 : gMT 85 = (yX9_timeOf, cX9_timeOf, 4, (some .int)) := rfl
theorem mtj_86 : gMT 86 = (yX9_isOpen, cX9_isOpen, 5, (some .boolean)) := rfl
theorem mtj_87 : gMT 87 = (yX9_openRows, cX9_openRows, 1, (some (.array .int))) := rfl
theorem mtj_88 : gMT 88 = (yX9_fillOpen, cX9_fillOpen, 5, none) := rfl
theorem mtj_89 : gMT 89 = (yX9_rowsByDoor, cX9_rowsByDoor, 2, (some (.array .int))) := rfl
theorem mtj_90 : gMT 90 = (yX9_rowByDoor, cX9_rowByDoor, 5, (some .int)) := rfl
theorem mtj_91 : gMT 91 = (yX9_measure, cX9_measure, 5, none) := rfl
theorem mtj_92 : gMT 92 = (yX9_shortenBy, cX9_shortenBy, 6, none) := rfl
theorem mtj_93 : gMT 93 = (yX9_cell, cX9_cell, 2, (some .int)) := rfl
theorem mtj_94 : gMT 94 = (yX9_shortestTime, cX9_shortestTime, 4, (some .int)) := rfl
theorem mtj_95 : gMT 95 = (yX9_shortestVisits, cX9_shortestVisits, 4, (some .int)) := rfl
theorem mtj_96 : gMT 96 = (yX9_stopOnWay, cX9_stopOnWay, 6, (some .int)) := rfl
theorem mtj_97 : gMT 97 = (yX9_nextOnWay, cX9_nextOnWay, 5, (some .int)) := rfl
theorem mtj_98 : gMT 98 = (yX9_meetingPlace, cX9_meetingPlace, 11, (some .int)) := rfl
theorem mtj_99 : gMT 99 = (yX10_init, cX10_init, 1, none) := rfl
theorem mtj_100 : gMT 100 = (yX10_has, cX10_has, 2, (some .boolean)) := rfl
theorem mtj_101 : gMT 101 = (yX10_areHouses, cX10_areHouses, 2, (some .boolean)) := rfl
theorem mtj_102 : gMT 102 = (yX10_hasTwo, cX10_hasTwo, 3, (some .boolean)) := rfl
theorem mtj_103 : gMT 103 = (yX10_bothStand, cX10_bothStand, 3, (some .boolean)) := rfl
theorem mtj_104 : gMT 104 = (yX10_lawInForce, cX10_lawInForce, 1, (some (.object "CornerTown$Law"))) := rfl
theorem mtj_105 : gMT 105 = (yX10_whyNoHouse, cX10_whyNoHouse, 8, (some .int)) := rfl
theorem mtj_106 : gMT 106 = (yX10_build, cX10_build, 7, (some .int)) := rfl
theorem mtj_107 : gMT 107 = (yX10_lies, cX10_lies, 4, (some .boolean)) := rfl
theorem mtj_108 : gMT 108 = (yX10_meeting, cX10_meeting, 8, (some .int)) := rfl
theorem mtj_109 : gMT 109 = (yX10_touching, cX10_touching, 3, (some .int)) := rfl
theorem mtj_110 : gMT 110 = (yX10_suits, cX10_suits, 11, (some .boolean)) := rfl
theorem mtj_111 : gMT 111 = (yX10_turnDoor, cX10_turnDoor, 3, none) := rfl
theorem mtj_112 : gMT 112 = (yX10_becomeLike, cX10_becomeLike, 3, none) := rfl
theorem mtj_113 : gMT 113 = (yX11_init, cX11_init, 1, none) := rfl
theorem mtj_114 : gMT 114 = (yX11_house, cX11_house, 7, (some .int)) := rfl
theorem mtj_115 : gMT 115 = (yX11_of, cX11_of, 3, (some .int)) := rfl
theorem mtj_116 : gMT 116 = (yX11_rank, cX11_rank, 4, (some .int)) := rfl
theorem mtj_117 : gMT 117 = (yX11_stand, cX11_stand, 4, (some .int)) := rfl
theorem mtj_118 : gMT 118 = (yX11_at, cX11_at, 4, (some .int)) := rfl
theorem mtj_119 : gMT 119 = (yX11_terms, cX11_terms, 4, (some .int)) := rfl
theorem mtj_120 : gMT 120 = (yX11_door, cX11_door, 3, (some .int)) := rfl
theorem mtj_121 : gMT 121 = (yX11_wall, cX11_wall, 3, (some .int)) := rfl
theorem mtj_122 : gMT 122 = (yX11_feed, cX11_feed, 6, (some .int)) := rfl
theorem mtj_123 : gMT 123 = (yX11_end, cX11_end, 2, (some .int)) := rfl
theorem mtj_124 : gMT 124 = (yX11_row, cX11_row, 5, (some .int)) := rfl
theorem mtj_125 : gMT 125 = (yX11_ruin, cX11_ruin, 1, (some .int)) := rfl
theorem mtj_126 : gMT 126 = (yX11_law, cX11_law, 3, (some .int)) := rfl
theorem mtj_127 : gMT 127 = (yX11_fault, cX11_fault, 1, (some .int)) := rfl
theorem mtj_128 : gMT 128 = (yX11_force, cX11_force, 3, (some .int)) := rfl
theorem mtj_129 : gMT 129 = (yX11_touch, cX11_touch, 3, (some .int)) := rfl
theorem mtj_130 : gMT 130 = (yX11_visit, cX11_visit, 4, (some .int)) := rfl
theorem mtj_131 : gMT 131 = (yX11_visits, cX11_visits, 2, (some .int)) := rfl
theorem mtj_132 : gMT 132 = (yX11_comes, cX11_comes, 4, (some .int)) := rfl
theorem mtj_133 : gMT 133 = (yX11_way, cX11_way, 4, (some .int)) := rfl
theorem mtj_134 : gMT 134 = (yX11_parts, cX11_parts, 3, (some .int)) := rfl
theorem mtj_135 : gMT 135 = (yX11_holders, cX11_holders, 3, (some .int)) := rfl
theorem mtj_136 : gMT 136 = (yX11_cut, cX11_cut, 4, (some .int)) := rfl
theorem mtj_137 : gMT 137 = (yX11_wish, cX11_wish, 4, (some .int)) := rfl
theorem mtj_138 : gMT 138 = (yX11_clear, cX11_clear, 2, (some .int)) := rfl
theorem mtj_139 : gMT 139 = (yX11_doors, cX11_doors, 2, (some .int)) := rfl
theorem mtj_140 : gMT 140 = (yX11_news, cX11_news, 3, (some .int)) := rfl
theorem mtj_141 : gMT 141 = (yX11_log, cX11_log, 3, (some .int)) := rfl
theorem mtj_142 : gMT 142 = (yX11_forget, cX11_forget, 2, (some .int)) := rfl
theorem mtj_143 : gMT 143 = (yX11_wrong, cX11_wrong, 2, (some .int)) := rfl
theorem mtj_144 : gMT 144 = (yX11_fits, cX11_fits, 3, (some .int)) := rfl
theorem mtj_145 : gMT 145 = (yX11_round, cX11_round, 3, (some .int)) := rfl
theorem mtj_146 : gMT 146 = (yX11_stop, cX11_stop, 4, (some .int)) := rfl
theorem mtj_147 : gMT 147 = (yX11_meet, cX11_meet, 5, (some .int)) := rfl
theorem mtj_148 : gMT 148 = (yX11_site, cX11_site, 9, (some .int)) := rfl
theorem mtj_149 : gMT 149 = (yX11_flood, cX11_flood, 3, (some .int)) := rfl
theorem mtj_150 : gMT 150 = (yX11_flooded, cX11_flooded, 3, (some .int)) := rfl
theorem mtj_151 : gMT 151 = (yX11_image, cX11_image, 2, (some .int)) := rfl
theorem mtj_152 : gMT 152 = (yX11_back, cX11_back, 2, (some .int)) := rfl
theorem mtj_153 : gMT 153 = (yX11_count, cX11_count, 2, (some .int)) := rfl
theorem mtj_154 : gMT 154 = (yX11_status, cX11_status, 1, (some .int)) := rfl
theorem mtj_155 : gMT 155 = (yX11_accept, cX11_accept, 2, (some .int)) := rfl
theorem mtj_156 : gMT 156 = (yX11_refuse, cX11_refuse, 3, (some .int)) := rfl
theorem mtj_157 : gMT 157 = (yX11_feedFour, cX11_feedFour, 3, none) := rfl
theorem mtj_158 : gMT 158 = (yX11_buildFrom, cX11_buildFrom, 7, (some .boolean)) := rfl
theorem mtj_159 : gMT 159 = (yX11_keepPair, cX11_keepPair, 4, (some .int)) := rfl
theorem mtj_160 : gMT 160 = (yX11_within, cX11_within, 3, (some .boolean)) := rfl
theorem mtj_161 : gMT 161 = (yX11_bitOf, cX11_bitOf, 2, (some .int)) := rfl
theorem mtj_162 : gMT 162 = (yX11_lowestOf, cX11_lowestOf, 1, (some .int)) := rfl
theorem mtj_163 : gMT 163 = (yX12_lies, cX12_lies, 3, (some .boolean)) := rfl
theorem mtj_164 : gMT 164 = (yX12_refuses, cX12_refuses, 2, (some .int)) := rfl
theorem mtj_165 : gMT 165 = (yX12_good, cX12_good, 2, (some .int)) := rfl
theorem mtj_166 : gMT 166 = (yX12_isIn, cX12_isIn, 2, (some .boolean)) := rfl
theorem mtj_167 : gMT 167 = (yX12_ones, cX12_ones, 3, (some .int)) := rfl
theorem mtj_168 : gMT 168 = (yX12_init, cX12_init, 1, none) := rfl
theorem mtj_169 : gMT 169 = (yX12_image, cX12_image, 3, (some .int)) := rfl
theorem mtj_170 : gMT 170 = (yX12_back, cX12_back, 3, (some .int)) := rfl
theorem mtj_171 : gMT 171 = (yX12_houses, cX12_houses, 1, (some .int)) := rfl
theorem mtj_172 : gMT 172 = (yX12_isHouse, cX12_isHouse, 2, (some .boolean)) := rfl
theorem mtj_173 : gMT 173 = (yX12_factOf, cX12_factOf, 3, (some .int)) := rfl
theorem mtj_174 : gMT 174 = (yX12_stands, cX12_stands, 2, (some .boolean)) := rfl
theorem mtj_175 : gMT 175 = (yX12_standing, cX12_standing, 3, (some .int)) := rfl
theorem mtj_176 : gMT 176 = (yX12_has, cX12_has, 4, (some .boolean)) := rfl
theorem mtj_177 : gMT 177 = (yX12_houseAt, cX12_houseAt, 4, (some .int)) := rfl
theorem mtj_178 : gMT 178 = (yX12_canBe, cX12_canBe, 4, (some .boolean)) := rfl
theorem mtj_179 : gMT 179 = (yX12_isFree, cX12_isFree, 6, (some .boolean)) := rfl
theorem mtj_180 : gMT 180 = (yX12_adds, cX12_adds, 8, (some .int)) := rfl
theorem mtj_181 : gMT 181 = (yX12_house, cX12_house, 6, (some .int)) := rfl
theorem mtj_182 : gMT 182 = (yX12_of, cX12_of, 3, (some .int)) := rfl
theorem mtj_183 : gMT 183 = (yX12_rank, cX12_rank, 4, (some .int)) := rfl
theorem mtj_184 : gMT 184 = (yX12_stand, cX12_stand, 4, (some .int)) := rfl
theorem mtj_185 : gMT 185 = (yX12_at, cX12_at, 3, (some .int)) := rfl
theorem mtj_186 : gMT 186 = (yX12_terms, cX12_terms, 4, (some .int)) := rfl
theorem mtj_187 : gMT 187 = (yX12_hasDoor, cX12_hasDoor, 3, (some .boolean)) := rfl
theorem mtj_188 : gMT 188 = (yX12_doorMany, cX12_doorMany, 4, (some .int)) := rfl
theorem mtj_189 : gMT 189 = (yX12_setsDoor, cX12_setsDoor, 4, none) := rfl
theorem mtj_190 : gMT 190 = (yX12_door, cX12_door, 3, (some .int)) := rfl
theorem mtj_191 : gMT 191 = (yX12_wall, cX12_wall, 3, (some .int)) := rfl
theorem mtj_192 : gMT 192 = (yX12_row, cX12_row, 5, (some .int)) := rfl
theorem mtj_193 : gMT 193 = (yX12_ruin, cX12_ruin, 1, (some .int)) := rfl
theorem mtj_194 : gMT 194 = (yX12_feed, cX12_feed, 7, (some .int)) := rfl
theorem mtj_195 : gMT 195 = (yX12_end, cX12_end, 2, (some .int)) := rfl
theorem mtj_196 : gMT 196 = (yX12_isSmall, cX12_isSmall, 1, (some .boolean)) := rfl
theorem mtj_197 : gMT 197 = (yX12_isDigit, cX12_isDigit, 1, (some .boolean)) := rfl
theorem mtj_198 : gMT 198 = (yX12_wordOf, cX12_wordOf, 8, (some .int)) := rfl
theorem mtj_199 : gMT 199 = (yX12_splits, cX12_splits, 6, none) := rfl
theorem mtj_200 : gMT 200 = (yX12_fine, cX12_fine, 1, (some .boolean)) := rfl
theorem mtj_201 : gMT 201 = (yX12_faults, cX12_faults, 1, none) := rfl
theorem mtj_202 : gMT 202 = (yX12_takes0, cX12_takes0, 3, (some .boolean)) := rfl
theorem mtj_203 : gMT 203 = (yX12_must, cX12_must, 2, none) := rfl
theorem mtj_204 : gMT 204 = (yX12_leaf, cX12_leaf, 1, none) := rfl
theorem mtj_205 : gMT 205 = (yX12_sign, cX12_sign, 1, (some .int)) := rfl
theorem mtj_206 : gMT 206 = (yX12_readClause, cX12_readClause, 1, none) := rfl
theorem mtj_207 : gMT 207 = (yX12_readTest, cX12_readTest, 2, none) := rfl
theorem mtj_208 : gMT 208 = (yX12_readBoth, cX12_readBoth, 2, none) := rfl
theorem mtj_209 : gMT 209 = (yX12_readPlain, cX12_readPlain, 4, none) := rfl
theorem mtj_210 : gMT 210 = (yX12_readSum, cX12_readSum, 2, none) := rfl
theorem mtj_211 : gMT 211 = (yX12_readTerm, cX12_readTerm, 2, none) := rfl
theorem mtj_212 : gMT 212 = (yX12_readPart, cX12_readPart, 3, none) := rfl
theorem mtj_213 : gMT 213 = (yX12_reads, cX12_reads, 2, (some .boolean)) := rfl
theorem mtj_214 : gMT 214 = (yX12_law, cX12_law, 3, (some .int)) := rfl
theorem mtj_215 : gMT 215 = (yX12_fault, cX12_fault, 1, (some .int)) := rfl
theorem mtj_216 : gMT 216 = (yX12_force, cX12_force, 3, (some .int)) := rfl
theorem mtj_217 : gMT 217 = (yX12_codeAt, cX12_codeAt, 2, (some .int)) := rfl
theorem mtj_218 : gMT 218 = (yX12_passes0, cX12_passes0, 3, (some .boolean)) := rfl
theorem mtj_219 : gMT 219 = (yX12_bounded, cX12_bounded, 4, (some .long)) := rfl
theorem mtj_220 : gMT 220 = (yX12_sumOf, cX12_sumOf, 7, (some .long)) := rfl
theorem mtj_221 : gMT 221 = (yX12_termOf, cX12_termOf, 7, (some .long)) := rfl
theorem mtj_222 : gMT 222 = (yX12_partOf, cX12_partOf, 4, (some .long)) := rfl
theorem mtj_223 : gMT 223 = (yX12_testOf, cX12_testOf, 4, (some .boolean)) := rfl
theorem mtj_224 : gMT 224 = (yX12_bothOf, cX12_bothOf, 4, (some .boolean)) := rfl
theorem mtj_225 : gMT 225 = (yX12_plainOf, cX12_plainOf, 3, (some .boolean)) := rfl
theorem mtj_226 : gMT 226 = (yX12_positiveOf, cX12_positiveOf, 7, (some .boolean)) := rfl
theorem mtj_227 : gMT 227 = (yX12_asksOf, cX12_asksOf, 10, none) := rfl
theorem mtj_228 : gMT 228 = (yX12_meet0, cX12_meet0, 4, (some .boolean)) := rfl
theorem mtj_229 : gMT 229 = (yX12_overlap, cX12_overlap, 4, (some .boolean)) := rfl
theorem mtj_230 : gMT 230 = (yX12_touchOf, cX12_touchOf, 10, (some .int)) := rfl
theorem mtj_231 : gMT 231 = (yX12_touching, cX12_touching, 3, (some .int)) := rfl
theorem mtj_232 : gMT 232 = (yX12_touch, cX12_touch, 3, (some .int)) := rfl
theorem mtj_233 : gMT 233 = (yX12_laysVisits, cX12_laysVisits, 5, none) := rfl
theorem mtj_234 : gMT 234 = (yX12_looks, cX12_looks, 1, none) := rfl
theorem mtj_235 : gMT 235 = (yX12_visit, cX12_visit, 4, (some .int)) := rfl
theorem mtj_236 : gMT 236 = (yX12_visits, cX12_visits, 2, (some .int)) := rfl
theorem mtj_237 : gMT 237 = (yX12_nexts, cX12_nexts, 3, (some .int)) := rfl
theorem mtj_238 : gMT 238 = (yX12_withOr, cX12_withOr, 4, (some .int)) := rfl
theorem mtj_239 : gMT 239 = (yX12_reach, cX12_reach, 6, (some .int)) := rfl
theorem mtj_240 : gMT 240 = (yX12_come, cX12_come, 4, (some .boolean)) := rfl
theorem mtj_241 : gMT 241 = (yX12_countsWays, cX12_countsWays, 5, none) := rfl
theorem mtj_242 : gMT 242 = (yX12_distances, cX12_distances, 6, none) := rfl
theorem mtj_243 : gMT 243 = (yX12_comes, cX12_comes, 4, (some .int)) := rfl
theorem mtj_244 : gMT 244 = (yX12_way, cX12_way, 8, (some .int)) := rfl
theorem mtj_245 : gMT 245 = (yX12_partsOf, cX12_partsOf, 7, none) := rfl
theorem mtj_246 : gMT 246 = (yX12_parts, cX12_parts, 2, (some .int)) := rfl
theorem mtj_247 : gMT 247 = (yX12_holders, cX12_holders, 5, (some .int)) := rfl
theorem mtj_248 : gMT 248 = (yX12_cut, cX12_cut, 9, (some .int)) := rfl
theorem mtj_249 : gMT 249 = (yX12_wish, cX12_wish, 6, (some .int)) := rfl
theorem mtj_250 : gMT 250 = (yX12_clear, cX12_clear, 2, (some .int)) := rfl
theorem mtj_251 : gMT 251 = (yX12_isWished, cX12_isWished, 2, (some .boolean)) := rfl
theorem mtj_252 : gMT 252 = (yX12_found, cX12_found, 2, none) := rfl
theorem mtj_253 : gMT 253 = (yX12_isPair, cX12_isPair, 2, (some .boolean)) := rfl
theorem mtj_254 : gMT 254 = (yX12_seeksDoors, cX12_seeksDoors, 4, none) := rfl
theorem mtj_255 : gMT 255 = (yX12_doors, cX12_doors, 2, (some .int)) := rfl
theorem mtj_256 : gMT 256 = (yX12_spreads, cX12_spreads, 6, none) := rfl
theorem mtj_257 : gMT 257 = (yX12_news, cX12_news, 3, (some .int)) := rfl
theorem mtj_258 : gMT 258 = (yX12_log, cX12_log, 4, (some .int)) := rfl
theorem mtj_259 : gMT 259 = (yX12_forget, cX12_forget, 2, (some .int)) := rfl
theorem mtj_260 : gMT 260 = (yX12_wrongs, cX12_wrongs, 4, (some .int)) := rfl
theorem mtj_261 : gMT 261 = (yX12_wrong, cX12_wrong, 2, (some .int)) := rfl
theorem mtj_262 : gMT 262 = (yX12_fits, cX12_fits, 6, (some .int)) := rfl
theorem mtj_263 : gMT 263 = (yX12_laysBetween, cX12_laysBetween, 3, none) := rfl
theorem mtj_264 : gMT 264 = (yX12_canRound, cX12_canRound, 3, (some .boolean)) := rfl
theorem mtj_265 : gMT 265 = (yX12_least, cX12_least, 8, (some .int)) := rfl
theorem mtj_266 : gMT 266 = (yX12_round, cX12_round, 4, (some .int)) := rfl
theorem mtj_267 : gMT 267 = (yX12_stop, cX12_stop, 8, (some .int)) := rfl
theorem mtj_268 : gMT 268 = (yX12_meet, cX12_meet, 11, (some .int)) := rfl
theorem mtj_269 : gMT 269 = (yX12_site, cX12_site, 14, (some .int)) := rfl
theorem mtj_270 : gMT 270 = (yX12_draws, cX12_draws, 2, (some .int)) := rfl
theorem mtj_271 : gMT 271 = (yX12_flood, cX12_flood, 7, (some .int)) := rfl
theorem mtj_272 : gMT 272 = (yX12_flooded, cX12_flooded, 3, (some .int)) := rfl
theorem mtj_273 : gMT 273 = (yX12_count, cX12_count, 2, (some .int)) := rfl
theorem mtj_274 : gMT 274 = (yX12_status, cX12_status, 1, (some .int)) := rfl
theorem mtj_275 : gMT 275 = (yJ6_bitCount_0f7a4, cJ6_bitCount_0f7a4, 1, (some .int)) := rfl
theorem mtj_276 : gMT 276 = (yJ0_length_8abf5, cJ0_length_8abf5, 1, (some .int)) := rfl
theorem mtj_277 : gMT 277 = (yJ0_charAt_5068e, cJ0_charAt_5068e, 2, (some .char)) := rfl
theorem mtj_278 : gMT 278 = (yJ0_coder_7d493, cJ0_coder_7d493, 1, (some .byte)) := rfl
theorem mtj_279 : gMT 279 = (yJ0_isLatin1_aae02, cJ0_isLatin1_aae02, 1, (some .boolean)) := rfl
theorem mtj_280 : gMT 280 = (yJ0_checkIndex_df160, cJ0_checkIndex_df160, 2, none) := rfl
theorem mtj_281 : gMT 281 = (yJ1_charAt_3b067, cJ1_charAt_3b067, 2, (some .char)) := rfl
theorem mtj_282 : gMT 282 = (yJ7_fill_53178, cJ7_fill_53178, 4, none) := rfl
theorem mtj_283 : gMT 283 = (yJ7_copyOf_59c91, cJ7_copyOf_59c91, 3, (some (.array .int))) := rfl
theorem mtj_284 : gMT 284 = (yJ3_checkIndex_8e157, cJ3_checkIndex_8e157, 3, (some .int)) := rfl
def gFind : List (Nat × gO) → Nat → Option gO
  | [], _ => none
  | e :: t, pc => if e.1 = pc then some e.2 else gFind t pc
def gAll (l : Launch) (M : gM) : List (Nat × gO) → Prop
  | [] => True
  | e :: t => gOk2 gMT l M e.1 e.2 ∧ gAll l M t
theorem gAll_app {l : Launch} {M : gM} {a b : List (Nat × gO)} (ha : gAll l M a) (hb : gAll l M b) : gAll l M (a ++ b) := by
  induction a with
  | nil => exact hb
  | cons e t ih => exact ⟨ha.1, ih ha.2⟩
theorem gAll_find {l : Launch} {M : gM} {a : List (Nat × gO)} (ha : gAll l M a) {pc : Nat} {o : gO} (h : gFind a pc = some o) : gOk2 gMT l M pc o := by
  induction a with
  | nil => cases h
  | cons e t ih =>
    unfold gFind at h
    split at h
    · next e1 =>
      cases h
      rw [← e1]
      exact ha.1
    · exact ih ha.2 h
