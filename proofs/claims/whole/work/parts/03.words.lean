/-! the words of the tables that a walk keeps, each by its place -/
def gWS : List Cond := lw_tbl.filter goodWord
theorem gWS_lw : ∀ w ∈ gWS, w ∈ lw_tbl := fun _ h => (List.mem_filter.mp h).1
theorem gWS_good {w : Cond} (h : w ∈ gWS) : (w.onTables && w.keeps) = true ∨ ∃ ty, w = .arrayClass ty := good_of_word (List.mem_filter.mp h).2
theorem tk_1 : ∀ w ∈ tables_1_1, w ∈ lw_tbl := fun _ h => List.mem_append_right _ (List.mem_append_left _ h)
theorem tk_2 : ∀ w ∈ tables_1_2, w ∈ lw_tbl := fun _ h => List.mem_append_right _ (List.mem_append_right _ (List.mem_append_left _ h))
theorem tk_3 : ∀ w ∈ tables_1_3, w ∈ lw_tbl := fun _ h => List.mem_append_right _ (List.mem_append_right _ (List.mem_append_right _ (List.mem_append_left _ h)))
theorem tk_4 : ∀ w ∈ tables_1_4, w ∈ lw_tbl := fun _ h => List.mem_append_right _ (List.mem_append_right _ (List.mem_append_right _ (List.mem_append_right _ (List.mem_append_left _ h))))
theorem tk_5 : ∀ w ∈ tables_1_5, w ∈ lw_tbl := fun _ h => List.mem_append_right _ (List.mem_append_right _ (List.mem_append_right _ (List.mem_append_right _ (List.mem_append_right _ (List.mem_append_left _ h)))))
theorem tk_6 : ∀ w ∈ tables_1_6, w ∈ lw_tbl := fun _ h => List.mem_append_right _ (List.mem_append_right _ (List.mem_append_right _ (List.mem_append_right _ (List.mem_append_right _ (List.mem_append_right _ (List.mem_append_left _ h))))))
theorem tk_7 : ∀ w ∈ tables_1_7, w ∈ lw_tbl := fun _ h => List.mem_append_right _ (List.mem_append_right _ (List.mem_append_right _ (List.mem_append_right _ (List.mem_append_right _ (List.mem_append_right _ (List.mem_append_right _ (List.mem_append_left _ h)))))))
theorem tk_8 : ∀ w ∈ tables_1_8, w ∈ lw_tbl := fun _ h => List.mem_append_right _ (List.mem_append_right _ (List.mem_append_right _ (List.mem_append_right _ (List.mem_append_right _ (List.mem_append_right _ (List.mem_append_right _ (List.mem_append_right _ h)))))))
theorem kw_0 : Cond.classLink RL 7 RX11 ∈ gWS := List.mem_filter.mpr ⟨(tk_1 _ (List.mem_of_getElem? (i := 22) rfl)), rfl⟩
theorem kw_1 : Cond.instantiable RX11 15 ∈ gWS := List.mem_filter.mpr ⟨(tk_1 _ (List.mem_of_getElem? (i := 23) rfl)), rfl⟩
theorem kw_2 : Cond.initialized RX11 ∈ gWS := List.mem_filter.mpr ⟨(tk_1 _ (List.mem_of_getElem? (i := 1) rfl)), rfl⟩
theorem kw_3 : Cond.classLink RL 10 RX12 ∈ gWS := List.mem_filter.mpr ⟨(tk_6 _ (List.mem_of_getElem? (i := 73) rfl)), rfl⟩
theorem kw_4 : Cond.instantiable RX12 50 ∈ gWS := List.mem_filter.mpr ⟨(tk_6 _ (List.mem_of_getElem? (i := 74) rfl)), rfl⟩
theorem kw_5 : Cond.initialized RX12 ∈ gWS := List.mem_filter.mpr ⟨(tk_1 _ (List.mem_of_getElem? (i := 13) rfl)), rfl⟩
theorem kw_6 : Cond.methodLink RL 9 yX11_init ∈ gWS := List.mem_filter.mpr ⟨(tk_1 _ (List.mem_of_getElem? (i := 24) rfl)), rfl⟩
theorem kw_7 : Cond.instanceMethod yX11_init ∈ gWS := List.mem_filter.mpr ⟨(tk_1 _ (List.mem_of_getElem? (i := 25) rfl)), rfl⟩
theorem kw_8 : Cond.code yX11_init cX11_init 1 none ∈ gWS := List.mem_filter.mpr ⟨(tk_1 _ (List.mem_of_getElem? (i := 26) rfl)), rfl⟩
theorem kw_9 : Cond.methodLink RX11 1 objectInit ∈ gWS := List.mem_filter.mpr ⟨(tk_1 _ (List.mem_of_getElem? (i := 27) rfl)), rfl⟩
theorem kw_10 : Cond.instanceMethod objectInit ∈ gWS := List.mem_filter.mpr ⟨(tk_1 _ (List.mem_of_getElem? (i := 28) rfl)), rfl⟩
theorem kw_11 : Cond.code objectInit ⟨#[0xb1]⟩ 1 none ∈ gWS := List.mem_filter.mpr ⟨(tk_1 _ (List.mem_of_getElem? (i := 29) rfl)), rfl⟩
theorem kw_12 : Cond.classLink RX11 7 RX10 ∈ gWS := List.mem_filter.mpr ⟨(tk_1 _ (List.mem_of_getElem? (i := 30) rfl)), rfl⟩
theorem kw_13 : Cond.instantiable RX10 18 ∈ gWS := List.mem_filter.mpr ⟨(tk_1 _ (List.mem_of_getElem? (i := 31) rfl)), rfl⟩
theorem kw_14 : Cond.initialized RX10 ∈ gWS := List.mem_filter.mpr ⟨(tk_1 _ (List.mem_of_getElem? (i := 2) rfl)), rfl⟩
theorem kw_15 : Cond.fieldLink RX11 10 "CornerTown" "town" "LCornerTown$Town;" ∈ gWS := List.mem_filter.mpr ⟨(tk_2 _ (List.mem_of_getElem? (i := 211) rfl)), rfl⟩
theorem kw_16 : Cond.fieldLink RX11 16 "CornerTown" "images" "[LCornerTown$Town;" ∈ gWS := List.mem_filter.mpr ⟨(tk_2 _ (List.mem_of_getElem? (i := 212) rfl)), rfl⟩
theorem kw_17 : Cond.arrayClass .int ∈ gWS := List.mem_filter.mpr ⟨(tk_1 _ (List.mem_of_getElem? (i := 64) rfl)), rfl⟩
theorem kw_18 : Cond.fieldLink RX11 20 "CornerTown" "tape" "[I" ∈ gWS := List.mem_filter.mpr ⟨(tk_2 _ (List.mem_of_getElem? (i := 213) rfl)), rfl⟩
theorem kw_19 : Cond.fieldLink RX11 24 "CornerTown" "taped" "I" ∈ gWS := List.mem_filter.mpr ⟨(tk_2 _ (List.mem_of_getElem? (i := 214) rfl)), rfl⟩
theorem kw_20 : Cond.classLink RX11 28 RX6 ∈ gWS := List.mem_filter.mpr ⟨(tk_1 _ (List.mem_of_getElem? (i := 167) rfl)), rfl⟩
theorem kw_21 : Cond.instantiable RX6 13 ∈ gWS := List.mem_filter.mpr ⟨(tk_1 _ (List.mem_of_getElem? (i := 168) rfl)), rfl⟩
theorem kw_22 : Cond.initialized RX6 ∈ gWS := List.mem_filter.mpr ⟨(tk_1 _ (List.mem_of_getElem? (i := 5) rfl)), rfl⟩
theorem kw_23 : Cond.fieldLink RX11 33 "CornerTown" "reader" "LCornerTown$Reader;" ∈ gWS := List.mem_filter.mpr ⟨(tk_2 _ (List.mem_of_getElem? (i := 215) rfl)), rfl⟩
theorem kw_24 : Cond.fieldLink RX11 37 "CornerTown" "lastFault" "I" ∈ gWS := List.mem_filter.mpr ⟨(tk_2 _ (List.mem_of_getElem? (i := 216) rfl)), rfl⟩
theorem kw_25 : Cond.fieldLink RX11 40 "CornerTown" "lastRuin" "I" ∈ gWS := List.mem_filter.mpr ⟨(tk_2 _ (List.mem_of_getElem? (i := 217) rfl)), rfl⟩
theorem kw_26 : Cond.fieldLink RX11 43 "CornerTown" "refusals" "[I" ∈ gWS := List.mem_filter.mpr ⟨(tk_2 _ (List.mem_of_getElem? (i := 218) rfl)), rfl⟩
theorem kw_27 : Cond.fieldLink RX11 46 "CornerTown" "lastRefusal" "I" ∈ gWS := List.mem_filter.mpr ⟨(tk_2 _ (List.mem_of_getElem? (i := 219) rfl)), rfl⟩
theorem kw_28 : Cond.classLink RX11 49 RX9 ∈ gWS := List.mem_filter.mpr ⟨(tk_1 _ (List.mem_of_getElem? (i := 213) rfl)), rfl⟩
theorem kw_29 : Cond.instantiable RX9 9 ∈ gWS := List.mem_filter.mpr ⟨(tk_1 _ (List.mem_of_getElem? (i := 214) rfl)), rfl⟩
theorem kw_30 : Cond.initialized RX9 ∈ gWS := List.mem_filter.mpr ⟨(tk_1 _ (List.mem_of_getElem? (i := 6) rfl)), rfl⟩
theorem kw_31 : Cond.fieldLink RX11 54 "CornerTown" "streets" "LCornerTown$Streets;" ∈ gWS := List.mem_filter.mpr ⟨(tk_2 _ (List.mem_of_getElem? (i := 220) rfl)), rfl⟩
theorem kw_32 : Cond.classLink RX11 58 RX0 ∈ gWS := List.mem_filter.mpr ⟨(tk_2 _ (List.mem_of_getElem? (i := 27) rfl)), rfl⟩
theorem kw_33 : Cond.instantiable RX0 8 ∈ gWS := List.mem_filter.mpr ⟨(tk_2 _ (List.mem_of_getElem? (i := 28) rfl)), rfl⟩
theorem kw_34 : Cond.initialized RX0 ∈ gWS := List.mem_filter.mpr ⟨(tk_1 _ (List.mem_of_getElem? (i := 8) rfl)), rfl⟩
theorem kw_35 : Cond.fieldLink RX11 61 "CornerTown" "crossings" "LCornerTown$Crossings;" ∈ gWS := List.mem_filter.mpr ⟨(tk_2 _ (List.mem_of_getElem? (i := 221) rfl)), rfl⟩
theorem kw_36 : Cond.classLink RX11 65 RX1 ∈ gWS := List.mem_filter.mpr ⟨(tk_2 _ (List.mem_of_getElem? (i := 62) rfl)), rfl⟩
theorem kw_37 : Cond.instantiable RX1 9 ∈ gWS := List.mem_filter.mpr ⟨(tk_2 _ (List.mem_of_getElem? (i := 63) rfl)), rfl⟩
theorem kw_38 : Cond.initialized RX1 ∈ gWS := List.mem_filter.mpr ⟨(tk_1 _ (List.mem_of_getElem? (i := 9) rfl)), rfl⟩
theorem kw_39 : Cond.fieldLink RX11 68 "CornerTown" "doorSearch" "LCornerTown$DoorSearch;" ∈ gWS := List.mem_filter.mpr ⟨(tk_2 _ (List.mem_of_getElem? (i := 222) rfl)), rfl⟩
theorem kw_40 : Cond.classLink RX11 72 RX4 ∈ gWS := List.mem_filter.mpr ⟨(tk_2 _ (List.mem_of_getElem? (i := 98) rfl)), rfl⟩
theorem kw_41 : Cond.instantiable RX4 9 ∈ gWS := List.mem_filter.mpr ⟨(tk_2 _ (List.mem_of_getElem? (i := 99) rfl)), rfl⟩
theorem kw_42 : Cond.initialized RX4 ∈ gWS := List.mem_filter.mpr ⟨(tk_1 _ (List.mem_of_getElem? (i := 10) rfl)), rfl⟩
theorem kw_43 : Cond.fieldLink RX11 75 "CornerTown" "gossip" "LCornerTown$News;" ∈ gWS := List.mem_filter.mpr ⟨(tk_2 _ (List.mem_of_getElem? (i := 223) rfl)), rfl⟩
theorem kw_44 : Cond.classLink RX11 79 RX8 ∈ gWS := List.mem_filter.mpr ⟨(tk_2 _ (List.mem_of_getElem? (i := 136) rfl)), rfl⟩
theorem kw_45 : Cond.instantiable RX8 12 ∈ gWS := List.mem_filter.mpr ⟨(tk_2 _ (List.mem_of_getElem? (i := 137) rfl)), rfl⟩
theorem kw_46 : Cond.initialized RX8 ∈ gWS := List.mem_filter.mpr ⟨(tk_1 _ (List.mem_of_getElem? (i := 11) rfl)), rfl⟩
theorem kw_47 : Cond.fieldLink RX11 84 "CornerTown" "rounds" "LCornerTown$Rounds;" ∈ gWS := List.mem_filter.mpr ⟨(tk_2 _ (List.mem_of_getElem? (i := 224) rfl)), rfl⟩
theorem kw_48 : Cond.classLink RX11 88 RX2 ∈ gWS := List.mem_filter.mpr ⟨(tk_2 _ (List.mem_of_getElem? (i := 180) rfl)), rfl⟩
theorem kw_49 : Cond.instantiable RX2 8 ∈ gWS := List.mem_filter.mpr ⟨(tk_2 _ (List.mem_of_getElem? (i := 181) rfl)), rfl⟩
theorem kw_50 : Cond.initialized RX2 ∈ gWS := List.mem_filter.mpr ⟨(tk_1 _ (List.mem_of_getElem? (i := 12) rfl)), rfl⟩
theorem kw_51 : Cond.fieldLink RX11 93 "CornerTown" "floods" "LCornerTown$Floods;" ∈ gWS := List.mem_filter.mpr ⟨(tk_2 _ (List.mem_of_getElem? (i := 225) rfl)), rfl⟩
theorem kw_52 : Cond.methodLink RX11 9 yX10_init ∈ gWS := List.mem_filter.mpr ⟨(tk_1 _ (List.mem_of_getElem? (i := 32) rfl)), rfl⟩
theorem kw_53 : Cond.instanceMethod yX10_init ∈ gWS := List.mem_filter.mpr ⟨(tk_1 _ (List.mem_of_getElem? (i := 33) rfl)), rfl⟩
theorem kw_54 : Cond.code yX10_init cX10_init 1 none ∈ gWS := List.mem_filter.mpr ⟨(tk_1 _ (List.mem_of_getElem? (i := 34) rfl)), rfl⟩
theorem kw_55 : Cond.methodLink RX10 3 objectInit ∈ gWS := List.mem_filter.mpr ⟨(tk_1 _ (List.mem_of_getElem? (i := 35) rfl)), rfl⟩
theorem kw_56 : Cond.fieldLink RX10 9 "CornerTown$Town" "x" "[I" ∈ gWS := List.mem_filter.mpr ⟨(tk_1 _ (List.mem_of_getElem? (i := 65) rfl)), rfl⟩
theorem kw_57 : Cond.fieldLink RX10 15 "CornerTown$Town" "y" "[I" ∈ gWS := List.mem_filter.mpr ⟨(tk_1 _ (List.mem_of_getElem? (i := 67) rfl)), rfl⟩
theorem kw_58 : Cond.fieldLink RX10 18 "CornerTown$Town" "wide" "[I" ∈ gWS := List.mem_filter.mpr ⟨(tk_1 _ (List.mem_of_getElem? (i := 69) rfl)), rfl⟩
theorem kw_59 : Cond.fieldLink RX10 21 "CornerTown$Town" "deep" "[I" ∈ gWS := List.mem_filter.mpr ⟨(tk_1 _ (List.mem_of_getElem? (i := 72) rfl)), rfl⟩
theorem kw_60 : Cond.fieldLink RX10 24 "CornerTown$Town" "ranks" "[I" ∈ gWS := List.mem_filter.mpr ⟨(tk_1 _ (List.mem_of_getElem? (i := 75) rfl)), rfl⟩
theorem kw_61 : Cond.fieldLink RX10 27 "CornerTown$Town" "houses" "I" ∈ gWS := List.mem_filter.mpr ⟨(tk_1 _ (List.mem_of_getElem? (i := 78) rfl)), rfl⟩
theorem kw_62 : Cond.fieldLink RX10 31 "CornerTown$Town" "standing" "I" ∈ gWS := List.mem_filter.mpr ⟨(tk_1 _ (List.mem_of_getElem? (i := 86) rfl)), rfl⟩
theorem kw_63 : Cond.fieldLink RX10 34 "CornerTown$Town" "doorRows" "[I" ∈ gWS := List.mem_filter.mpr ⟨(tk_1 _ (List.mem_of_getElem? (i := 94) rfl)), rfl⟩
theorem kw_64 : Cond.fieldLink RX10 37 "CornerTown$Town" "doorCount" "I" ∈ gWS := List.mem_filter.mpr ⟨(tk_1 _ (List.mem_of_getElem? (i := 99) rfl)), rfl⟩
theorem kw_65 : Cond.classLink RX10 40 RX3 ∈ gWS := List.mem_filter.mpr ⟨(tk_1 _ (List.mem_of_getElem? (i := 36) rfl)), rfl⟩
theorem kw_66 : Cond.fieldLink RX10 42 "CornerTown$Town" "laws" "[LCornerTown$Law;" ∈ gWS := List.mem_filter.mpr ⟨(tk_1 _ (List.mem_of_getElem? (i := 101) rfl)), rfl⟩
theorem kw_67 : Cond.fieldLink RX10 46 "CornerTown$Town" "lawCount" "I" ∈ gWS := List.mem_filter.mpr ⟨(tk_1 _ (List.mem_of_getElem? (i := 103) rfl)), rfl⟩
theorem kw_68 : Cond.fieldLink RX10 49 "CornerTown$Town" "inForce" "I" ∈ gWS := List.mem_filter.mpr ⟨(tk_1 _ (List.mem_of_getElem? (i := 105) rfl)), rfl⟩
theorem kw_69 : Cond.fieldLink RX10 52 "CornerTown$Town" "hour" "I" ∈ gWS := List.mem_filter.mpr ⟨(tk_1 _ (List.mem_of_getElem? (i := 107) rfl)), rfl⟩
theorem kw_70 : Cond.fieldLink RX10 55 "CornerTown$Town" "day" "I" ∈ gWS := List.mem_filter.mpr ⟨(tk_1 _ (List.mem_of_getElem? (i := 110) rfl)), rfl⟩
theorem kw_71 : Cond.classLink RX10 58 RX5 ∈ gWS := List.mem_filter.mpr ⟨(tk_1 _ (List.mem_of_getElem? (i := 38) rfl)), rfl⟩
theorem kw_72 : Cond.instantiable RX5 3 ∈ gWS := List.mem_filter.mpr ⟨(tk_1 _ (List.mem_of_getElem? (i := 39) rfl)), rfl⟩
theorem kw_73 : Cond.initialized RX5 ∈ gWS := List.mem_filter.mpr ⟨(tk_1 _ (List.mem_of_getElem? (i := 3) rfl)), rfl⟩
theorem kw_74 : Cond.fieldLink RX10 63 "CornerTown$Town" "wishes" "LCornerTown$Pairs;" ∈ gWS := List.mem_filter.mpr ⟨(tk_1 _ (List.mem_of_getElem? (i := 114) rfl)), rfl⟩
theorem kw_75 : Cond.fieldLink RX10 67 "CornerTown$Town" "bans" "LCornerTown$Pairs;" ∈ gWS := List.mem_filter.mpr ⟨(tk_1 _ (List.mem_of_getElem? (i := 117) rfl)), rfl⟩
theorem kw_76 : Cond.fieldLink RX10 70 "CornerTown$Town" "logs" "LCornerTown$Pairs;" ∈ gWS := List.mem_filter.mpr ⟨(tk_1 _ (List.mem_of_getElem? (i := 120) rfl)), rfl⟩
theorem kw_77 : Cond.fieldLink RX10 73 "CornerTown$Town" "changes" "I" ∈ gWS := List.mem_filter.mpr ⟨(tk_1 _ (List.mem_of_getElem? (i := 123) rfl)), rfl⟩
theorem kw_78 : Cond.methodLink RX10 60 yX5_init ∈ gWS := List.mem_filter.mpr ⟨(tk_1 _ (List.mem_of_getElem? (i := 40) rfl)), rfl⟩
theorem kw_79 : Cond.instanceMethod yX5_init ∈ gWS := List.mem_filter.mpr ⟨(tk_1 _ (List.mem_of_getElem? (i := 41) rfl)), rfl⟩
theorem kw_80 : Cond.code yX5_init cX5_init 2 none ∈ gWS := List.mem_filter.mpr ⟨(tk_1 _ (List.mem_of_getElem? (i := 42) rfl)), rfl⟩
theorem kw_81 : Cond.methodLink RX5 1 objectInit ∈ gWS := List.mem_filter.mpr ⟨(tk_1 _ (List.mem_of_getElem? (i := 43) rfl)), rfl⟩
theorem kw_82 : Cond.fieldLink RX5 7 "CornerTown$Pairs" "size" "I" ∈ gWS := List.mem_filter.mpr ⟨(tk_1 _ (List.mem_of_getElem? (i := 53) rfl)), rfl⟩
theorem kw_83 : Cond.methodLink RX5 13 Lib.Math.max.name ∈ gWS := List.mem_filter.mpr ⟨(tk_1 _ (List.mem_of_getElem? (i := 44) rfl)), rfl⟩
theorem kw_84 : Cond.static Lib.Math.max.name ∈ gWS := List.mem_filter.mpr ⟨(tk_1 _ (List.mem_of_getElem? (i := 45) rfl)), rfl⟩
theorem kw_85 : Cond.initialized "java/lang/Math" ∈ gWS := List.mem_filter.mpr ⟨(tk_1 _ (List.mem_of_getElem? (i := 4) rfl)), rfl⟩
theorem kw_86 : Cond.code Lib.Math.max.name Lib.Math.max.code 2 (some .int) ∈ gWS := List.mem_filter.mpr ⟨(tk_1 _ (List.mem_of_getElem? (i := 46) rfl)), rfl⟩
theorem kw_87 : Cond.fieldLink RX5 19 "CornerTown$Pairs" "first" "[I" ∈ gWS := List.mem_filter.mpr ⟨(tk_1 _ (List.mem_of_getElem? (i := 47) rfl)), rfl⟩
theorem kw_88 : Cond.fieldLink RX5 23 "CornerTown$Pairs" "second" "[I" ∈ gWS := List.mem_filter.mpr ⟨(tk_1 _ (List.mem_of_getElem? (i := 50) rfl)), rfl⟩
theorem kw_89 : Cond.methodLink RX11 30 yX6_init ∈ gWS := List.mem_filter.mpr ⟨(tk_1 _ (List.mem_of_getElem? (i := 169) rfl)), rfl⟩
theorem kw_90 : Cond.instanceMethod yX6_init ∈ gWS := List.mem_filter.mpr ⟨(tk_1 _ (List.mem_of_getElem? (i := 170) rfl)), rfl⟩
theorem kw_91 : Cond.code yX6_init cX6_init 2 none ∈ gWS := List.mem_filter.mpr ⟨(tk_1 _ (List.mem_of_getElem? (i := 171) rfl)), rfl⟩
theorem kw_92 : Cond.methodLink RX6 3 objectInit ∈ gWS := List.mem_filter.mpr ⟨(tk_1 _ (List.mem_of_getElem? (i := 172) rfl)), rfl⟩
theorem kw_93 : Cond.fieldLink RX6 9 "CornerTown$Reader" "steps" "[I" ∈ gWS := List.mem_filter.mpr ⟨(tk_1 _ (List.mem_of_getElem? (i := 174) rfl)), rfl⟩
theorem kw_94 : Cond.fieldLink RX6 17 "CornerTown$Reader" "ends" "[I" ∈ gWS := List.mem_filter.mpr ⟨(tk_1 _ (List.mem_of_getElem? (i := 175) rfl)), rfl⟩
theorem kw_95 : Cond.fieldLink RX6 20 "CornerTown$Reader" "kinds" "[I" ∈ gWS := List.mem_filter.mpr ⟨(tk_1 _ (List.mem_of_getElem? (i := 176) rfl)), rfl⟩
theorem kw_96 : Cond.fieldLink RX6 23 "CornerTown$Reader" "length" "I" ∈ gWS := List.mem_filter.mpr ⟨(tk_1 _ (List.mem_of_getElem? (i := 177) rfl)), rfl⟩
theorem kw_97 : Cond.fieldLink RX6 27 "CornerTown$Reader" "place" "I" ∈ gWS := List.mem_filter.mpr ⟨(tk_1 _ (List.mem_of_getElem? (i := 178) rfl)), rfl⟩
theorem kw_98 : Cond.fieldLink RX6 30 "CornerTown$Reader" "behind" "I" ∈ gWS := List.mem_filter.mpr ⟨(tk_1 _ (List.mem_of_getElem? (i := 179) rfl)), rfl⟩
theorem kw_99 : Cond.fieldLink RX6 33 "CornerTown$Reader" "token" "I" ∈ gWS := List.mem_filter.mpr ⟨(tk_1 _ (List.mem_of_getElem? (i := 180) rfl)), rfl⟩
theorem kw_100 : Cond.fieldLink RX6 36 "CornerTown$Reader" "size" "I" ∈ gWS := List.mem_filter.mpr ⟨(tk_1 _ (List.mem_of_getElem? (i := 181) rfl)), rfl⟩
theorem kw_101 : Cond.fieldLink RX6 39 "CornerTown$Reader" "parts" "I" ∈ gWS := List.mem_filter.mpr ⟨(tk_1 _ (List.mem_of_getElem? (i := 182) rfl)), rfl⟩
theorem kw_102 : Cond.fieldLink RX6 42 "CornerTown$Reader" "clauses" "I" ∈ gWS := List.mem_filter.mpr ⟨(tk_1 _ (List.mem_of_getElem? (i := 183) rfl)), rfl⟩
theorem kw_103 : Cond.fieldLink RX6 45 "CornerTown$Reader" "namesDay" "Z" ∈ gWS := List.mem_filter.mpr ⟨(tk_1 _ (List.mem_of_getElem? (i := 184) rfl)), rfl⟩
theorem kw_104 : Cond.fieldLink RX6 49 "CornerTown$Reader" "fault" "I" ∈ gWS := List.mem_filter.mpr ⟨(tk_1 _ (List.mem_of_getElem? (i := 185) rfl)), rfl⟩
theorem kw_105 : Cond.fieldLink RX6 52 "CornerTown$Reader" "text" "[I" ∈ gWS := List.mem_filter.mpr ⟨(tk_1 _ (List.mem_of_getElem? (i := 173) rfl)), rfl⟩
theorem kw_106 : Cond.methodLink RX11 51 yX9_init ∈ gWS := List.mem_filter.mpr ⟨(tk_1 _ (List.mem_of_getElem? (i := 215) rfl)), rfl⟩
theorem kw_107 : Cond.instanceMethod yX9_init ∈ gWS := List.mem_filter.mpr ⟨(tk_1 _ (List.mem_of_getElem? (i := 216) rfl)), rfl⟩
theorem kw_108 : Cond.code yX9_init cX9_init 2 none ∈ gWS := List.mem_filter.mpr ⟨(tk_1 _ (List.mem_of_getElem? (i := 217) rfl)), rfl⟩
theorem kw_109 : Cond.methodLink RX9 3 objectInit ∈ gWS := List.mem_filter.mpr ⟨(tk_1 _ (List.mem_of_getElem? (i := 218) rfl)), rfl⟩
theorem kw_110 : Cond.classLink RX9 9 RX7 ∈ gWS := List.mem_filter.mpr ⟨(tk_1 _ (List.mem_of_getElem? (i := 219) rfl)), rfl⟩
theorem kw_111 : Cond.instantiable RX7 4 ∈ gWS := List.mem_filter.mpr ⟨(tk_1 _ (List.mem_of_getElem? (i := 220) rfl)), rfl⟩
theorem kw_112 : Cond.initialized RX7 ∈ gWS := List.mem_filter.mpr ⟨(tk_1 _ (List.mem_of_getElem? (i := 7) rfl)), rfl⟩
theorem kw_113 : Cond.fieldLink RX9 12 "CornerTown$Streets" "reckoner" "LCornerTown$Reckoner;" ∈ gWS := List.mem_filter.mpr ⟨(tk_2 _ (List.mem_of_getElem? (i := 0) rfl)), rfl⟩
theorem kw_114 : Cond.fieldLink RX9 18 "CornerTown$Streets" "open" "[I" ∈ gWS := List.mem_filter.mpr ⟨(tk_2 _ (List.mem_of_getElem? (i := 1) rfl)), rfl⟩
theorem kw_115 : Cond.fieldLink RX9 22 "CornerTown$Streets" "openByDoor" "[I" ∈ gWS := List.mem_filter.mpr ⟨(tk_2 _ (List.mem_of_getElem? (i := 2) rfl)), rfl⟩
theorem kw_116 : Cond.fieldLink RX9 25 "CornerTown$Streets" "steps" "[I" ∈ gWS := List.mem_filter.mpr ⟨(tk_2 _ (List.mem_of_getElem? (i := 3) rfl)), rfl⟩
theorem kw_117 : Cond.fieldLink RX9 28 "CornerTown$Streets" "ways" "[I" ∈ gWS := List.mem_filter.mpr ⟨(tk_2 _ (List.mem_of_getElem? (i := 4) rfl)), rfl⟩
theorem kw_118 : Cond.fieldLink RX9 31 "CornerTown$Streets" "openAsOf" "I" ∈ gWS := List.mem_filter.mpr ⟨(tk_2 _ (List.mem_of_getElem? (i := 5) rfl)), rfl⟩
theorem kw_119 : Cond.fieldLink RX9 35 "CornerTown$Streets" "byDoorAsOf" "I" ∈ gWS := List.mem_filter.mpr ⟨(tk_2 _ (List.mem_of_getElem? (i := 6) rfl)), rfl⟩
theorem kw_120 : Cond.fieldLink RX9 38 "CornerTown$Streets" "waysAsOf" "I" ∈ gWS := List.mem_filter.mpr ⟨(tk_2 _ (List.mem_of_getElem? (i := 7) rfl)), rfl⟩
theorem kw_121 : Cond.fieldLink RX9 41 "CornerTown$Streets" "town" "LCornerTown$Town;" ∈ gWS := List.mem_filter.mpr ⟨(tk_1 _ (List.mem_of_getElem? (i := 239) rfl)), rfl⟩
theorem kw_122 : Cond.methodLink RX9 11 yX7_init ∈ gWS := List.mem_filter.mpr ⟨(tk_1 _ (List.mem_of_getElem? (i := 221) rfl)), rfl⟩
theorem kw_123 : Cond.instanceMethod yX7_init ∈ gWS := List.mem_filter.mpr ⟨(tk_1 _ (List.mem_of_getElem? (i := 222) rfl)), rfl⟩
theorem kw_124 : Cond.code yX7_init cX7_init 1 none ∈ gWS := List.mem_filter.mpr ⟨(tk_1 _ (List.mem_of_getElem? (i := 223) rfl)), rfl⟩
theorem kw_125 : Cond.methodLink RX7 3 objectInit ∈ gWS := List.mem_filter.mpr ⟨(tk_1 _ (List.mem_of_getElem? (i := 224) rfl)), rfl⟩
theorem kw_126 : Cond.fieldLink RX7 11 "CornerTown$Reckoner" "words" "[I" ∈ gWS := List.mem_filter.mpr ⟨(tk_1 _ (List.mem_of_getElem? (i := 225) rfl)), rfl⟩
theorem kw_127 : Cond.arrayClass .long ∈ gWS := List.mem_filter.mpr ⟨(tk_1 _ (List.mem_of_getElem? (i := 238) rfl)), rfl⟩
theorem kw_128 : Cond.fieldLink RX7 15 "CornerTown$Reckoner" "stack" "[J" ∈ gWS := List.mem_filter.mpr ⟨(tk_1 _ (List.mem_of_getElem? (i := 226) rfl)), rfl⟩
theorem kw_129 : Cond.fieldLink RX7 19 "CornerTown$Reckoner" "size" "I" ∈ gWS := List.mem_filter.mpr ⟨(tk_1 _ (List.mem_of_getElem? (i := 227) rfl)), rfl⟩
theorem kw_130 : Cond.fieldLink RX7 23 "CornerTown$Reckoner" "broken" "Z" ∈ gWS := List.mem_filter.mpr ⟨(tk_1 _ (List.mem_of_getElem? (i := 228) rfl)), rfl⟩
theorem kw_131 : Cond.methodLink RX11 60 yX0_init ∈ gWS := List.mem_filter.mpr ⟨(tk_2 _ (List.mem_of_getElem? (i := 29) rfl)), rfl⟩
theorem kw_132 : Cond.instanceMethod yX0_init ∈ gWS := List.mem_filter.mpr ⟨(tk_2 _ (List.mem_of_getElem? (i := 30) rfl)), rfl⟩
theorem kw_133 : Cond.code yX0_init cX0_init 2 none ∈ gWS := List.mem_filter.mpr ⟨(tk_2 _ (List.mem_of_getElem? (i := 31) rfl)), rfl⟩
theorem kw_134 : Cond.methodLink RX0 3 objectInit ∈ gWS := List.mem_filter.mpr ⟨(tk_2 _ (List.mem_of_getElem? (i := 32) rfl)), rfl⟩
theorem kw_135 : Cond.fieldLink RX0 9 "CornerTown$Crossings" "counts" "[I" ∈ gWS := List.mem_filter.mpr ⟨(tk_2 _ (List.mem_of_getElem? (i := 34) rfl)), rfl⟩
theorem kw_136 : Cond.fieldLink RX0 15 "CornerTown$Crossings" "reached" "[I" ∈ gWS := List.mem_filter.mpr ⟨(tk_2 _ (List.mem_of_getElem? (i := 35) rfl)), rfl⟩
theorem kw_137 : Cond.fieldLink RX0 18 "CornerTown$Crossings" "found" "[I" ∈ gWS := List.mem_filter.mpr ⟨(tk_2 _ (List.mem_of_getElem? (i := 36) rfl)), rfl⟩
theorem kw_138 : Cond.fieldLink RX0 21 "CornerTown$Crossings" "fewest" "I" ∈ gWS := List.mem_filter.mpr ⟨(tk_2 _ (List.mem_of_getElem? (i := 37) rfl)), rfl⟩
theorem kw_139 : Cond.fieldLink RX0 25 "CornerTown$Crossings" "waysOfFewest" "I" ∈ gWS := List.mem_filter.mpr ⟨(tk_2 _ (List.mem_of_getElem? (i := 39) rfl)), rfl⟩
theorem kw_140 : Cond.fieldLink RX0 28 "CornerTown$Crossings" "cutBits" "I" ∈ gWS := List.mem_filter.mpr ⟨(tk_2 _ (List.mem_of_getElem? (i := 41) rfl)), rfl⟩
theorem kw_141 : Cond.fieldLink RX0 31 "CornerTown$Crossings" "cutWays" "I" ∈ gWS := List.mem_filter.mpr ⟨(tk_2 _ (List.mem_of_getElem? (i := 43) rfl)), rfl⟩
theorem kw_142 : Cond.fieldLink RX0 34 "CornerTown$Crossings" "town" "LCornerTown$Town;" ∈ gWS := List.mem_filter.mpr ⟨(tk_2 _ (List.mem_of_getElem? (i := 33) rfl)), rfl⟩
theorem kw_143 : Cond.methodLink RX11 67 yX1_init ∈ gWS := List.mem_filter.mpr ⟨(tk_2 _ (List.mem_of_getElem? (i := 64) rfl)), rfl⟩
theorem kw_144 : Cond.instanceMethod yX1_init ∈ gWS := List.mem_filter.mpr ⟨(tk_2 _ (List.mem_of_getElem? (i := 65) rfl)), rfl⟩
theorem kw_145 : Cond.code yX1_init cX1_init 2 none ∈ gWS := List.mem_filter.mpr ⟨(tk_2 _ (List.mem_of_getElem? (i := 66) rfl)), rfl⟩
theorem kw_146 : Cond.methodLink RX1 3 objectInit ∈ gWS := List.mem_filter.mpr ⟨(tk_2 _ (List.mem_of_getElem? (i := 67) rfl)), rfl⟩
theorem kw_147 : Cond.fieldLink RX1 9 "CornerTown$DoorSearch" "rows" "[I" ∈ gWS := List.mem_filter.mpr ⟨(tk_2 _ (List.mem_of_getElem? (i := 69) rfl)), rfl⟩
theorem kw_148 : Cond.fieldLink RX1 15 "CornerTown$DoorSearch" "low" "[I" ∈ gWS := List.mem_filter.mpr ⟨(tk_2 _ (List.mem_of_getElem? (i := 70) rfl)), rfl⟩
theorem kw_149 : Cond.fieldLink RX1 18 "CornerTown$DoorSearch" "high" "[I" ∈ gWS := List.mem_filter.mpr ⟨(tk_2 _ (List.mem_of_getElem? (i := 71) rfl)), rfl⟩
theorem kw_150 : Cond.fieldLink RX1 21 "CornerTown$DoorSearch" "pairs" "I" ∈ gWS := List.mem_filter.mpr ⟨(tk_2 _ (List.mem_of_getElem? (i := 72) rfl)), rfl⟩
theorem kw_151 : Cond.fieldLink RX1 25 "CornerTown$DoorSearch" "picked" "[I" ∈ gWS := List.mem_filter.mpr ⟨(tk_2 _ (List.mem_of_getElem? (i := 73) rfl)), rfl⟩
theorem kw_152 : Cond.fieldLink RX1 28 "CornerTown$DoorSearch" "asOf" "I" ∈ gWS := List.mem_filter.mpr ⟨(tk_2 _ (List.mem_of_getElem? (i := 74) rfl)), rfl⟩
theorem kw_153 : Cond.fieldLink RX1 31 "CornerTown$DoorSearch" "needed" "I" ∈ gWS := List.mem_filter.mpr ⟨(tk_2 _ (List.mem_of_getElem? (i := 75) rfl)), rfl⟩
theorem kw_154 : Cond.fieldLink RX1 34 "CornerTown$DoorSearch" "ways" "I" ∈ gWS := List.mem_filter.mpr ⟨(tk_2 _ (List.mem_of_getElem? (i := 77) rfl)), rfl⟩
theorem kw_155 : Cond.fieldLink RX1 37 "CornerTown$DoorSearch" "town" "LCornerTown$Town;" ∈ gWS := List.mem_filter.mpr ⟨(tk_2 _ (List.mem_of_getElem? (i := 68) rfl)), rfl⟩
theorem kw_156 : Cond.methodLink RX11 74 yX4_init ∈ gWS := List.mem_filter.mpr ⟨(tk_2 _ (List.mem_of_getElem? (i := 100) rfl)), rfl⟩
theorem kw_157 : Cond.instanceMethod yX4_init ∈ gWS := List.mem_filter.mpr ⟨(tk_2 _ (List.mem_of_getElem? (i := 101) rfl)), rfl⟩
theorem kw_158 : Cond.code yX4_init cX4_init 2 none ∈ gWS := List.mem_filter.mpr ⟨(tk_2 _ (List.mem_of_getElem? (i := 102) rfl)), rfl⟩
theorem kw_159 : Cond.methodLink RX4 3 objectInit ∈ gWS := List.mem_filter.mpr ⟨(tk_2 _ (List.mem_of_getElem? (i := 103) rfl)), rfl⟩
theorem kw_160 : Cond.fieldLink RX4 9 "CornerTown$News" "rows" "[I" ∈ gWS := List.mem_filter.mpr ⟨(tk_2 _ (List.mem_of_getElem? (i := 105) rfl)), rfl⟩
theorem kw_161 : Cond.fieldLink RX4 15 "CornerTown$News" "days" "[I" ∈ gWS := List.mem_filter.mpr ⟨(tk_2 _ (List.mem_of_getElem? (i := 106) rfl)), rfl⟩
theorem kw_162 : Cond.fieldLink RX4 18 "CornerTown$News" "asOf" "I" ∈ gWS := List.mem_filter.mpr ⟨(tk_2 _ (List.mem_of_getElem? (i := 107) rfl)), rfl⟩
theorem kw_163 : Cond.fieldLink RX4 22 "CornerTown$News" "toldHouse" "I" ∈ gWS := List.mem_filter.mpr ⟨(tk_2 _ (List.mem_of_getElem? (i := 108) rfl)), rfl⟩
theorem kw_164 : Cond.fieldLink RX4 25 "CornerTown$News" "fitsAsIs" "Z" ∈ gWS := List.mem_filter.mpr ⟨(tk_2 _ (List.mem_of_getElem? (i := 109) rfl)), rfl⟩
theorem kw_165 : Cond.fieldLink RX4 29 "CornerTown$News" "fitting" "I" ∈ gWS := List.mem_filter.mpr ⟨(tk_2 _ (List.mem_of_getElem? (i := 111) rfl)), rfl⟩
theorem kw_166 : Cond.fieldLink RX4 32 "CornerTown$News" "fitLow" "I" ∈ gWS := List.mem_filter.mpr ⟨(tk_2 _ (List.mem_of_getElem? (i := 113) rfl)), rfl⟩
theorem kw_167 : Cond.fieldLink RX4 35 "CornerTown$News" "fitHigh" "I" ∈ gWS := List.mem_filter.mpr ⟨(tk_2 _ (List.mem_of_getElem? (i := 115) rfl)), rfl⟩
theorem kw_168 : Cond.fieldLink RX4 38 "CornerTown$News" "town" "LCornerTown$Town;" ∈ gWS := List.mem_filter.mpr ⟨(tk_2 _ (List.mem_of_getElem? (i := 104) rfl)), rfl⟩
theorem kw_169 : Cond.methodLink RX11 81 yX8_init ∈ gWS := List.mem_filter.mpr ⟨(tk_2 _ (List.mem_of_getElem? (i := 138) rfl)), rfl⟩
theorem kw_170 : Cond.instanceMethod yX8_init ∈ gWS := List.mem_filter.mpr ⟨(tk_2 _ (List.mem_of_getElem? (i := 139) rfl)), rfl⟩
theorem kw_171 : Cond.code yX8_init cX8_init 3 none ∈ gWS := List.mem_filter.mpr ⟨(tk_2 _ (List.mem_of_getElem? (i := 140) rfl)), rfl⟩
theorem kw_172 : Cond.methodLink RX8 3 objectInit ∈ gWS := List.mem_filter.mpr ⟨(tk_2 _ (List.mem_of_getElem? (i := 141) rfl)), rfl⟩
theorem kw_173 : Cond.fieldLink RX8 9 "CornerTown$Rounds" "errands" "[I" ∈ gWS := List.mem_filter.mpr ⟨(tk_2 _ (List.mem_of_getElem? (i := 144) rfl)), rfl⟩
theorem kw_174 : Cond.fieldLink RX8 15 "CornerTown$Rounds" "order" "[I" ∈ gWS := List.mem_filter.mpr ⟨(tk_2 _ (List.mem_of_getElem? (i := 145) rfl)), rfl⟩
theorem kw_175 : Cond.fieldLink RX8 18 "CornerTown$Rounds" "times" "[I" ∈ gWS := List.mem_filter.mpr ⟨(tk_2 _ (List.mem_of_getElem? (i := 146) rfl)), rfl⟩
theorem kw_176 : Cond.fieldLink RX8 21 "CornerTown$Rounds" "least" "[I" ∈ gWS := List.mem_filter.mpr ⟨(tk_2 _ (List.mem_of_getElem? (i := 147) rfl)), rfl⟩
theorem kw_177 : Cond.fieldLink RX8 24 "CornerTown$Rounds" "size" "I" ∈ gWS := List.mem_filter.mpr ⟨(tk_2 _ (List.mem_of_getElem? (i := 148) rfl)), rfl⟩
theorem kw_178 : Cond.fieldLink RX8 28 "CornerTown$Rounds" "asOf" "I" ∈ gWS := List.mem_filter.mpr ⟨(tk_2 _ (List.mem_of_getElem? (i := 149) rfl)), rfl⟩
theorem kw_179 : Cond.fieldLink RX8 31 "CornerTown$Rounds" "homeThen" "I" ∈ gWS := List.mem_filter.mpr ⟨(tk_2 _ (List.mem_of_getElem? (i := 150) rfl)), rfl⟩
theorem kw_180 : Cond.fieldLink RX8 34 "CornerTown$Rounds" "bitsThen" "I" ∈ gWS := List.mem_filter.mpr ⟨(tk_2 _ (List.mem_of_getElem? (i := 151) rfl)), rfl⟩
theorem kw_181 : Cond.fieldLink RX8 37 "CornerTown$Rounds" "can" "Z" ∈ gWS := List.mem_filter.mpr ⟨(tk_2 _ (List.mem_of_getElem? (i := 152) rfl)), rfl⟩
theorem kw_182 : Cond.fieldLink RX8 41 "CornerTown$Rounds" "taken" "I" ∈ gWS := List.mem_filter.mpr ⟨(tk_2 _ (List.mem_of_getElem? (i := 153) rfl)), rfl⟩
theorem kw_183 : Cond.fieldLink RX8 44 "CornerTown$Rounds" "town" "LCornerTown$Town;" ∈ gWS := List.mem_filter.mpr ⟨(tk_2 _ (List.mem_of_getElem? (i := 142) rfl)), rfl⟩
theorem kw_184 : Cond.fieldLink RX8 48 "CornerTown$Rounds" "streets" "LCornerTown$Streets;" ∈ gWS := List.mem_filter.mpr ⟨(tk_2 _ (List.mem_of_getElem? (i := 143) rfl)), rfl⟩
theorem kw_185 : Cond.methodLink RX11 90 yX2_init ∈ gWS := List.mem_filter.mpr ⟨(tk_2 _ (List.mem_of_getElem? (i := 182) rfl)), rfl⟩
theorem kw_186 : Cond.instanceMethod yX2_init ∈ gWS := List.mem_filter.mpr ⟨(tk_2 _ (List.mem_of_getElem? (i := 183) rfl)), rfl⟩
theorem kw_187 : Cond.code yX2_init cX2_init 4 none ∈ gWS := List.mem_filter.mpr ⟨(tk_2 _ (List.mem_of_getElem? (i := 184) rfl)), rfl⟩
theorem kw_188 : Cond.methodLink RX2 3 objectInit ∈ gWS := List.mem_filter.mpr ⟨(tk_2 _ (List.mem_of_getElem? (i := 185) rfl)), rfl⟩
theorem kw_189 : Cond.fieldLink RX2 9 "CornerTown$Floods" "rows" "[I" ∈ gWS := List.mem_filter.mpr ⟨(tk_2 _ (List.mem_of_getElem? (i := 189) rfl)), rfl⟩
theorem kw_190 : Cond.fieldLink RX2 15 "CornerTown$Floods" "water" "[I" ∈ gWS := List.mem_filter.mpr ⟨(tk_2 _ (List.mem_of_getElem? (i := 190) rfl)), rfl⟩
theorem kw_191 : Cond.fieldLink RX2 18 "CornerTown$Floods" "partsThen" "[I" ∈ gWS := List.mem_filter.mpr ⟨(tk_2 _ (List.mem_of_getElem? (i := 191) rfl)), rfl⟩
theorem kw_192 : Cond.fieldLink RX2 21 "CornerTown$Floods" "days" "I" ∈ gWS := List.mem_filter.mpr ⟨(tk_2 _ (List.mem_of_getElem? (i := 192) rfl)), rfl⟩
theorem kw_193 : Cond.fieldLink RX2 25 "CornerTown$Floods" "state" "J" ∈ gWS := List.mem_filter.mpr ⟨(tk_2 _ (List.mem_of_getElem? (i := 193) rfl)), rfl⟩
theorem kw_194 : Cond.fieldLink RX2 29 "CornerTown$Floods" "town" "LCornerTown$Town;" ∈ gWS := List.mem_filter.mpr ⟨(tk_2 _ (List.mem_of_getElem? (i := 186) rfl)), rfl⟩
theorem kw_195 : Cond.fieldLink RX2 33 "CornerTown$Floods" "streets" "LCornerTown$Streets;" ∈ gWS := List.mem_filter.mpr ⟨(tk_2 _ (List.mem_of_getElem? (i := 187) rfl)), rfl⟩
theorem kw_196 : Cond.fieldLink RX2 37 "CornerTown$Floods" "crossings" "LCornerTown$Crossings;" ∈ gWS := List.mem_filter.mpr ⟨(tk_2 _ (List.mem_of_getElem? (i := 188) rfl)), rfl⟩
theorem kw_197 : Cond.methodLink RL 12 yX12_init ∈ gWS := List.mem_filter.mpr ⟨(tk_6 _ (List.mem_of_getElem? (i := 75) rfl)), rfl⟩
theorem kw_198 : Cond.instanceMethod yX12_init ∈ gWS := List.mem_filter.mpr ⟨(tk_6 _ (List.mem_of_getElem? (i := 76) rfl)), rfl⟩
theorem kw_199 : Cond.code yX12_init cX12_init 1 none ∈ gWS := List.mem_filter.mpr ⟨(tk_6 _ (List.mem_of_getElem? (i := 77) rfl)), rfl⟩
theorem kw_200 : Cond.methodLink RX12 14 objectInit ∈ gWS := List.mem_filter.mpr ⟨(tk_6 _ (List.mem_of_getElem? (i := 78) rfl)), rfl⟩
theorem kw_201 : Cond.fieldLink RX12 7 "CornerTownModel" "refused" "[I" ∈ gWS := List.mem_filter.mpr ⟨(tk_6 _ (List.mem_of_getElem? (i := 82) rfl)), rfl⟩
theorem kw_202 : Cond.fieldLink RX12 20 "CornerTownModel" "kept" "[I" ∈ gWS := List.mem_filter.mpr ⟨(tk_6 _ (List.mem_of_getElem? (i := 83) rfl)), rfl⟩
theorem kw_203 : Cond.fieldLink RX12 23 "CornerTownModel" "images" "[I" ∈ gWS := List.mem_filter.mpr ⟨(tk_6 _ (List.mem_of_getElem? (i := 84) rfl)), rfl⟩
theorem kw_204 : Cond.arrayClass .boolean ∈ gWS := List.mem_filter.mpr ⟨(tk_6 _ (List.mem_of_getElem? (i := 231) rfl)), rfl⟩
theorem kw_205 : Cond.fieldLink RX12 26 "CornerTownModel" "hasImage" "[Z" ∈ gWS := List.mem_filter.mpr ⟨(tk_6 _ (List.mem_of_getElem? (i := 85) rfl)), rfl⟩
theorem kw_206 : Cond.arrayClass .byte ∈ gWS := List.mem_filter.mpr ⟨(tk_4 _ (List.mem_of_getElem? (i := 69) rfl)), rfl⟩
theorem kw_207 : Cond.fieldLink RX12 30 "CornerTownModel" "words" "[B" ∈ gWS := List.mem_filter.mpr ⟨(tk_6 _ (List.mem_of_getElem? (i := 87) rfl)), rfl⟩
theorem kw_208 : Cond.fieldLink RX12 34 "CornerTownModel" "tape" "[B" ∈ gWS := List.mem_filter.mpr ⟨(tk_6 _ (List.mem_of_getElem? (i := 88) rfl)), rfl⟩
theorem kw_209 : Cond.fieldLink RX12 37 "CornerTownModel" "five" "[I" ∈ gWS := List.mem_filter.mpr ⟨(tk_6 _ (List.mem_of_getElem? (i := 89) rfl)), rfl⟩
theorem kw_210 : Cond.fieldLink RX12 40 "CornerTownModel" "fault" "I" ∈ gWS := List.mem_filter.mpr ⟨(tk_6 _ (List.mem_of_getElem? (i := 91) rfl)), rfl⟩
theorem kw_211 : Cond.fieldLink RX12 43 "CornerTownModel" "code" "[I" ∈ gWS := List.mem_filter.mpr ⟨(tk_6 _ (List.mem_of_getElem? (i := 92) rfl)), rfl⟩
theorem kw_212 : Cond.fieldLink RX12 46 "CornerTownModel" "value" "[I" ∈ gWS := List.mem_filter.mpr ⟨(tk_6 _ (List.mem_of_getElem? (i := 93) rfl)), rfl⟩
theorem kw_213 : Cond.fieldLink RX12 49 "CornerTownModel" "placed" "[I" ∈ gWS := List.mem_filter.mpr ⟨(tk_6 _ (List.mem_of_getElem? (i := 94) rfl)), rfl⟩
theorem kw_214 : Cond.fieldLink RX12 52 "CornerTownModel" "asked" "[I" ∈ gWS := List.mem_filter.mpr ⟨(tk_6 _ (List.mem_of_getElem? (i := 102) rfl)), rfl⟩
theorem kw_215 : Cond.fieldLink RX12 55 "CornerTownModel" "to0" "[I" ∈ gWS := List.mem_filter.mpr ⟨(tk_6 _ (List.mem_of_getElem? (i := 105) rfl)), rfl⟩
theorem kw_216 : Cond.fieldLink RX12 58 "CornerTownModel" "times" "[I" ∈ gWS := List.mem_filter.mpr ⟨(tk_6 _ (List.mem_of_getElem? (i := 106) rfl)), rfl⟩
theorem kw_217 : Cond.fieldLink RX12 61 "CornerTownModel" "withDoor" "[Z" ∈ gWS := List.mem_filter.mpr ⟨(tk_6 _ (List.mem_of_getElem? (i := 107) rfl)), rfl⟩
theorem kw_218 : Cond.fieldLink RX12 64 "CornerTownModel" "laidBy" "I" ∈ gWS := List.mem_filter.mpr ⟨(tk_6 _ (List.mem_of_getElem? (i := 108) rfl)), rfl⟩
theorem kw_219 : Cond.fieldLink RX12 67 "CornerTownModel" "laidDay" "I" ∈ gWS := List.mem_filter.mpr ⟨(tk_6 _ (List.mem_of_getElem? (i := 109) rfl)), rfl⟩
theorem kw_220 : Cond.fieldLink RX12 70 "CornerTownModel" "oneA" "I" ∈ gWS := List.mem_filter.mpr ⟨(tk_6 _ (List.mem_of_getElem? (i := 110) rfl)), rfl⟩
theorem kw_221 : Cond.fieldLink RX12 73 "CornerTownModel" "twoA" "I" ∈ gWS := List.mem_filter.mpr ⟨(tk_6 _ (List.mem_of_getElem? (i := 112) rfl)), rfl⟩
theorem kw_222 : Cond.fieldLink RX12 76 "CornerTownModel" "fewest" "[I" ∈ gWS := List.mem_filter.mpr ⟨(tk_6 _ (List.mem_of_getElem? (i := 114) rfl)), rfl⟩
theorem kw_223 : Cond.fieldLink RX12 79 "CornerTownModel" "wayMany" "[I" ∈ gWS := List.mem_filter.mpr ⟨(tk_6 _ (List.mem_of_getElem? (i := 115) rfl)), rfl⟩
theorem kw_224 : Cond.fieldLink RX12 82 "CornerTownModel" "dist" "[I" ∈ gWS := List.mem_filter.mpr ⟨(tk_6 _ (List.mem_of_getElem? (i := 116) rfl)), rfl⟩
theorem kw_225 : Cond.fieldLink RX12 85 "CornerTownModel" "steps" "[I" ∈ gWS := List.mem_filter.mpr ⟨(tk_6 _ (List.mem_of_getElem? (i := 117) rfl)), rfl⟩
theorem kw_226 : Cond.fieldLink RX12 88 "CornerTownModel" "partRow" "[I" ∈ gWS := List.mem_filter.mpr ⟨(tk_6 _ (List.mem_of_getElem? (i := 118) rfl)), rfl⟩
theorem kw_227 : Cond.fieldLink RX12 91 "CornerTownModel" "doorRow" "[I" ∈ gWS := List.mem_filter.mpr ⟨(tk_6 _ (List.mem_of_getElem? (i := 120) rfl)), rfl⟩
theorem kw_228 : Cond.fieldLink RX12 94 "CornerTownModel" "newsDay" "[I" ∈ gWS := List.mem_filter.mpr ⟨(tk_6 _ (List.mem_of_getElem? (i := 123) rfl)), rfl⟩
theorem kw_229 : Cond.fieldLink RX12 97 "CornerTownModel" "between" "[I" ∈ gWS := List.mem_filter.mpr ⟨(tk_6 _ (List.mem_of_getElem? (i := 124) rfl)), rfl⟩
theorem kw_230 : Cond.constant RX12 100 (49152) ∈ gWS := List.mem_filter.mpr ⟨(tk_6 _ (List.mem_of_getElem? (i := 79) rfl)), rfl⟩
theorem kw_231 : Cond.fieldLink RX12 101 "CornerTownModel" "left" "[I" ∈ gWS := List.mem_filter.mpr ⟨(tk_6 _ (List.mem_of_getElem? (i := 125) rfl)), rfl⟩
theorem kw_232 : Cond.fieldLink RX12 104 "CornerTownModel" "floodRow" "[I" ∈ gWS := List.mem_filter.mpr ⟨(tk_6 _ (List.mem_of_getElem? (i := 126) rfl)), rfl⟩
theorem kw_233 : Cond.fieldLink RX12 107 "CornerTownModel" "floodParts" "[I" ∈ gWS := List.mem_filter.mpr ⟨(tk_6 _ (List.mem_of_getElem? (i := 127) rfl)), rfl⟩
theorem kw_234 : Cond.methodLink RL 13 yX11_house ∈ gWS := List.mem_filter.mpr ⟨(tk_3 _ (List.mem_of_getElem? (i := 17) rfl)), rfl⟩
theorem kw_235 : Cond.instanceMethod yX11_house ∈ gWS := List.mem_filter.mpr ⟨(tk_3 _ (List.mem_of_getElem? (i := 18) rfl)), rfl⟩
theorem kw_236 : Cond.selects RX11 yX11_house yX11_house ∈ gWS := List.mem_filter.mpr ⟨(tk_3 _ (List.mem_of_getElem? (i := 19) rfl)), rfl⟩
theorem kw_237 : Cond.code yX11_house cX11_house 7 (some .int) ∈ gWS := List.mem_filter.mpr ⟨(tk_3 _ (List.mem_of_getElem? (i := 20) rfl)), rfl⟩
theorem kw_238 : Cond.methodLink RX11 97 yX10_whyNoHouse ∈ gWS := List.mem_filter.mpr ⟨(tk_3 _ (List.mem_of_getElem? (i := 21) rfl)), rfl⟩
theorem kw_239 : Cond.instanceMethod yX10_whyNoHouse ∈ gWS := List.mem_filter.mpr ⟨(tk_3 _ (List.mem_of_getElem? (i := 22) rfl)), rfl⟩
theorem kw_240 : Cond.selects RX10 yX10_whyNoHouse yX10_whyNoHouse ∈ gWS := List.mem_filter.mpr ⟨(tk_3 _ (List.mem_of_getElem? (i := 23) rfl)), rfl⟩
theorem kw_241 : Cond.code yX10_whyNoHouse cX10_whyNoHouse 8 (some .int) ∈ gWS := List.mem_filter.mpr ⟨(tk_3 _ (List.mem_of_getElem? (i := 24) rfl)), rfl⟩
theorem kw_242 : Cond.static yX11_within ∈ gWS := List.mem_filter.mpr ⟨(tk_3 _ (List.mem_of_getElem? (i := 26) rfl)), rfl⟩
theorem kw_243 : Cond.code yX11_within cX11_within 3 (some .boolean) ∈ gWS := List.mem_filter.mpr ⟨(tk_3 _ (List.mem_of_getElem? (i := 27) rfl)), rfl⟩
theorem kw_244 : Cond.methodLink RX10 88 yX10_meeting ∈ gWS := List.mem_filter.mpr ⟨(tk_3 _ (List.mem_of_getElem? (i := 28) rfl)), rfl⟩
theorem kw_245 : Cond.instanceMethod yX10_meeting ∈ gWS := List.mem_filter.mpr ⟨(tk_3 _ (List.mem_of_getElem? (i := 29) rfl)), rfl⟩
theorem kw_246 : Cond.selects RX10 yX10_meeting yX10_meeting ∈ gWS := List.mem_filter.mpr ⟨(tk_3 _ (List.mem_of_getElem? (i := 30) rfl)), rfl⟩
theorem kw_247 : Cond.code yX10_meeting cX10_meeting 8 (some .int) ∈ gWS := List.mem_filter.mpr ⟨(tk_3 _ (List.mem_of_getElem? (i := 31) rfl)), rfl⟩
theorem kw_248 : Cond.methodLink RX10 92 Lib.Math.min.name ∈ gWS := List.mem_filter.mpr ⟨(tk_3 _ (List.mem_of_getElem? (i := 36) rfl)), rfl⟩
theorem kw_249 : Cond.static Lib.Math.min.name ∈ gWS := List.mem_filter.mpr ⟨(tk_3 _ (List.mem_of_getElem? (i := 37) rfl)), rfl⟩
theorem kw_250 : Cond.code Lib.Math.min.name Lib.Math.min.code 2 (some .int) ∈ gWS := List.mem_filter.mpr ⟨(tk_3 _ (List.mem_of_getElem? (i := 38) rfl)), rfl⟩
theorem kw_251 : Cond.methodLink RX10 97 Lib.Math.max.name ∈ gWS := List.mem_filter.mpr ⟨(tk_3 _ (List.mem_of_getElem? (i := 39) rfl)), rfl⟩
theorem kw_252 : Cond.methodLink RX10 76 yX10_has ∈ gWS := List.mem_filter.mpr ⟨(tk_3 _ (List.mem_of_getElem? (i := 32) rfl)), rfl⟩
theorem kw_253 : Cond.instanceMethod yX10_has ∈ gWS := List.mem_filter.mpr ⟨(tk_3 _ (List.mem_of_getElem? (i := 33) rfl)), rfl⟩
theorem kw_254 : Cond.selects RX10 yX10_has yX10_has ∈ gWS := List.mem_filter.mpr ⟨(tk_3 _ (List.mem_of_getElem? (i := 34) rfl)), rfl⟩
theorem kw_255 : Cond.code yX10_has cX10_has 2 (some .boolean) ∈ gWS := List.mem_filter.mpr ⟨(tk_3 _ (List.mem_of_getElem? (i := 35) rfl)), rfl⟩
theorem kw_256 : Cond.methodLink RX11 101 yX11_refuse ∈ gWS := List.mem_filter.mpr ⟨(tk_3 _ (List.mem_of_getElem? (i := 40) rfl)), rfl⟩
theorem kw_257 : Cond.instanceMethod yX11_refuse ∈ gWS := List.mem_filter.mpr ⟨(tk_3 _ (List.mem_of_getElem? (i := 42) rfl)), rfl⟩
theorem kw_258 : Cond.selects RX11 yX11_refuse yX11_refuse ∈ gWS := List.mem_filter.mpr ⟨(List.mem_append_left _ (List.mem_of_getElem? (i := 0) rfl)), rfl⟩
theorem kw_259 : Cond.code yX11_refuse cX11_refuse 3 (some .int) ∈ gWS := List.mem_filter.mpr ⟨(tk_3 _ (List.mem_of_getElem? (i := 43) rfl)), rfl⟩
theorem kw_260 : Cond.methodLink RX11 137 yX11_within ∈ gWS := List.mem_filter.mpr ⟨(tk_3 _ (List.mem_of_getElem? (i := 44) rfl)), rfl⟩
theorem kw_261 : Cond.methodLink RX11 105 yX10_build ∈ gWS := List.mem_filter.mpr ⟨(tk_3 _ (List.mem_of_getElem? (i := 45) rfl)), rfl⟩
theorem kw_262 : Cond.instanceMethod yX10_build ∈ gWS := List.mem_filter.mpr ⟨(tk_3 _ (List.mem_of_getElem? (i := 46) rfl)), rfl⟩
theorem kw_263 : Cond.selects RX10 yX10_build yX10_build ∈ gWS := List.mem_filter.mpr ⟨(tk_3 _ (List.mem_of_getElem? (i := 47) rfl)), rfl⟩
theorem kw_264 : Cond.code yX10_build cX10_build 7 (some .int) ∈ gWS := List.mem_filter.mpr ⟨(tk_3 _ (List.mem_of_getElem? (i := 48) rfl)), rfl⟩
theorem kw_265 : Cond.methodLink RX11 108 yX11_accept ∈ gWS := List.mem_filter.mpr ⟨(tk_3 _ (List.mem_of_getElem? (i := 49) rfl)), rfl⟩
theorem kw_266 : Cond.instanceMethod yX11_accept ∈ gWS := List.mem_filter.mpr ⟨(tk_3 _ (List.mem_of_getElem? (i := 51) rfl)), rfl⟩
theorem kw_267 : Cond.selects RX11 yX11_accept yX11_accept ∈ gWS := List.mem_filter.mpr ⟨(List.mem_append_left _ (List.mem_of_getElem? (i := 1) rfl)), rfl⟩
theorem kw_268 : Cond.code yX11_accept cX11_accept 2 (some .int) ∈ gWS := List.mem_filter.mpr ⟨(tk_3 _ (List.mem_of_getElem? (i := 52) rfl)), rfl⟩
theorem kw_269 : Cond.methodLink RL 17 yX12_house ∈ gWS := List.mem_filter.mpr ⟨(tk_7 _ (List.mem_of_getElem? (i := 11) rfl)), rfl⟩
theorem kw_270 : Cond.instanceMethod yX12_house ∈ gWS := List.mem_filter.mpr ⟨(tk_7 _ (List.mem_of_getElem? (i := 12) rfl)), rfl⟩
theorem kw_271 : Cond.selects RX12 yX12_house yX12_house ∈ gWS := List.mem_filter.mpr ⟨(tk_7 _ (List.mem_of_getElem? (i := 13) rfl)), rfl⟩
theorem kw_272 : Cond.code yX12_house cX12_house 6 (some .int) ∈ gWS := List.mem_filter.mpr ⟨(tk_7 _ (List.mem_of_getElem? (i := 14) rfl)), rfl⟩
theorem kw_273 : Cond.methodLink RX12 139 yX12_canBe ∈ gWS := List.mem_filter.mpr ⟨(tk_7 _ (List.mem_of_getElem? (i := 15) rfl)), rfl⟩
theorem kw_274 : Cond.static yX12_canBe ∈ gWS := List.mem_filter.mpr ⟨(tk_7 _ (List.mem_of_getElem? (i := 16) rfl)), rfl⟩
theorem kw_275 : Cond.code yX12_canBe cX12_canBe 4 (some .boolean) ∈ gWS := List.mem_filter.mpr ⟨(tk_7 _ (List.mem_of_getElem? (i := 17) rfl)), rfl⟩
theorem kw_276 : Cond.methodLink RX12 110 yX12_lies ∈ gWS := List.mem_filter.mpr ⟨(tk_6 _ (List.mem_of_getElem? (i := 236) rfl)), rfl⟩
theorem kw_277 : Cond.static yX12_lies ∈ gWS := List.mem_filter.mpr ⟨(tk_6 _ (List.mem_of_getElem? (i := 237) rfl)), rfl⟩
theorem kw_278 : Cond.code yX12_lies cX12_lies 3 (some .boolean) ∈ gWS := List.mem_filter.mpr ⟨(tk_6 _ (List.mem_of_getElem? (i := 238) rfl)), rfl⟩
theorem kw_279 : Cond.methodLink RX12 114 yX12_refuses ∈ gWS := List.mem_filter.mpr ⟨(tk_6 _ (List.mem_of_getElem? (i := 239) rfl)), rfl⟩
theorem kw_280 : Cond.instanceMethod yX12_refuses ∈ gWS := List.mem_filter.mpr ⟨(tk_7 _ (List.mem_of_getElem? (i := 1) rfl)), rfl⟩
theorem kw_281 : Cond.selects RX12 yX12_refuses yX12_refuses ∈ gWS := List.mem_filter.mpr ⟨(List.mem_append_left _ (List.mem_of_getElem? (i := 51) rfl)), rfl⟩
theorem kw_282 : Cond.code yX12_refuses cX12_refuses 2 (some .int) ∈ gWS := List.mem_filter.mpr ⟨(tk_7 _ (List.mem_of_getElem? (i := 2) rfl)), rfl⟩
theorem kw_283 : Cond.fieldLink RX12 3 "CornerTownModel" "status" "I" ∈ gWS := List.mem_filter.mpr ⟨(tk_6 _ (List.mem_of_getElem? (i := 80) rfl)), rfl⟩
theorem kw_284 : Cond.methodLink RX12 143 yX12_isFree ∈ gWS := List.mem_filter.mpr ⟨(tk_7 _ (List.mem_of_getElem? (i := 18) rfl)), rfl⟩
theorem kw_285 : Cond.instanceMethod yX12_isFree ∈ gWS := List.mem_filter.mpr ⟨(tk_7 _ (List.mem_of_getElem? (i := 20) rfl)), rfl⟩
theorem kw_286 : Cond.selects RX12 yX12_isFree yX12_isFree ∈ gWS := List.mem_filter.mpr ⟨(List.mem_append_left _ (List.mem_of_getElem? (i := 53) rfl)), rfl⟩
theorem kw_287 : Cond.code yX12_isFree cX12_isFree 6 (some .boolean) ∈ gWS := List.mem_filter.mpr ⟨(tk_7 _ (List.mem_of_getElem? (i := 21) rfl)), rfl⟩
theorem kw_288 : Cond.methodLink RX12 136 yX12_houseAt ∈ gWS := List.mem_filter.mpr ⟨(tk_7 _ (List.mem_of_getElem? (i := 22) rfl)), rfl⟩
theorem kw_289 : Cond.instanceMethod yX12_houseAt ∈ gWS := List.mem_filter.mpr ⟨(tk_7 _ (List.mem_of_getElem? (i := 24) rfl)), rfl⟩
theorem kw_290 : Cond.selects RX12 yX12_houseAt yX12_houseAt ∈ gWS := List.mem_filter.mpr ⟨(List.mem_append_left _ (List.mem_of_getElem? (i := 54) rfl)), rfl⟩
theorem kw_291 : Cond.code yX12_houseAt cX12_houseAt 4 (some .int) ∈ gWS := List.mem_filter.mpr ⟨(tk_7 _ (List.mem_of_getElem? (i := 25) rfl)), rfl⟩
theorem kw_292 : Cond.methodLink RX12 121 yX12_houses ∈ gWS := List.mem_filter.mpr ⟨(tk_7 _ (List.mem_of_getElem? (i := 26) rfl)), rfl⟩
theorem kw_293 : Cond.instanceMethod yX12_houses ∈ gWS := List.mem_filter.mpr ⟨(tk_7 _ (List.mem_of_getElem? (i := 28) rfl)), rfl⟩
theorem kw_294 : Cond.selects RX12 yX12_houses yX12_houses ∈ gWS := List.mem_filter.mpr ⟨(List.mem_append_left _ (List.mem_of_getElem? (i := 55) rfl)), rfl⟩
theorem kw_295 : Cond.code yX12_houses cX12_houses 1 (some .int) ∈ gWS := List.mem_filter.mpr ⟨(tk_7 _ (List.mem_of_getElem? (i := 29) rfl)), rfl⟩
theorem kw_296 : Cond.methodLink RX12 133 yX12_has ∈ gWS := List.mem_filter.mpr ⟨(tk_7 _ (List.mem_of_getElem? (i := 30) rfl)), rfl⟩
theorem kw_297 : Cond.instanceMethod yX12_has ∈ gWS := List.mem_filter.mpr ⟨(tk_7 _ (List.mem_of_getElem? (i := 32) rfl)), rfl⟩
theorem kw_298 : Cond.selects RX12 yX12_has yX12_has ∈ gWS := List.mem_filter.mpr ⟨(List.mem_append_left _ (List.mem_of_getElem? (i := 56) rfl)), rfl⟩
theorem kw_299 : Cond.code yX12_has cX12_has 4 (some .boolean) ∈ gWS := List.mem_filter.mpr ⟨(tk_7 _ (List.mem_of_getElem? (i := 33) rfl)), rfl⟩
theorem kw_300 : Cond.methodLink RX12 125 yX12_factOf ∈ gWS := List.mem_filter.mpr ⟨(tk_7 _ (List.mem_of_getElem? (i := 34) rfl)), rfl⟩
theorem kw_301 : Cond.instanceMethod yX12_factOf ∈ gWS := List.mem_filter.mpr ⟨(tk_7 _ (List.mem_of_getElem? (i := 36) rfl)), rfl⟩
theorem kw_302 : Cond.selects RX12 yX12_factOf yX12_factOf ∈ gWS := List.mem_filter.mpr ⟨(List.mem_append_left _ (List.mem_of_getElem? (i := 57) rfl)), rfl⟩
theorem kw_303 : Cond.code yX12_factOf cX12_factOf 3 (some .int) ∈ gWS := List.mem_filter.mpr ⟨(tk_7 _ (List.mem_of_getElem? (i := 37) rfl)), rfl⟩
theorem kw_304 : Cond.methodLink RX12 146 yX12_adds ∈ gWS := List.mem_filter.mpr ⟨(tk_7 _ (List.mem_of_getElem? (i := 38) rfl)), rfl⟩
theorem kw_305 : Cond.instanceMethod yX12_adds ∈ gWS := List.mem_filter.mpr ⟨(tk_7 _ (List.mem_of_getElem? (i := 40) rfl)), rfl⟩
theorem kw_306 : Cond.selects RX12 yX12_adds yX12_adds ∈ gWS := List.mem_filter.mpr ⟨(List.mem_append_left _ (List.mem_of_getElem? (i := 58) rfl)), rfl⟩
theorem kw_307 : Cond.code yX12_adds cX12_adds 8 (some .int) ∈ gWS := List.mem_filter.mpr ⟨(tk_7 _ (List.mem_of_getElem? (i := 41) rfl)), rfl⟩
theorem kw_308 : Cond.methodLink RX12 118 yX12_good ∈ gWS := List.mem_filter.mpr ⟨(tk_7 _ (List.mem_of_getElem? (i := 3) rfl)), rfl⟩
theorem kw_309 : Cond.instanceMethod yX12_good ∈ gWS := List.mem_filter.mpr ⟨(tk_7 _ (List.mem_of_getElem? (i := 5) rfl)), rfl⟩
theorem kw_310 : Cond.selects RX12 yX12_good yX12_good ∈ gWS := List.mem_filter.mpr ⟨(List.mem_append_left _ (List.mem_of_getElem? (i := 52) rfl)), rfl⟩
theorem kw_311 : Cond.code yX12_good cX12_good 2 (some .int) ∈ gWS := List.mem_filter.mpr ⟨(tk_7 _ (List.mem_of_getElem? (i := 6) rfl)), rfl⟩
theorem kw_312 : Cond.fieldLink RX12 11 "CornerTownModel" "version" "I" ∈ gWS := List.mem_filter.mpr ⟨(tk_6 _ (List.mem_of_getElem? (i := 81) rfl)), rfl⟩
theorem kw_313 : Cond.methodLink RL 18 yX11_of ∈ gWS := List.mem_filter.mpr ⟨(tk_3 _ (List.mem_of_getElem? (i := 53) rfl)), rfl⟩
theorem kw_314 : Cond.instanceMethod yX11_of ∈ gWS := List.mem_filter.mpr ⟨(tk_3 _ (List.mem_of_getElem? (i := 54) rfl)), rfl⟩
theorem kw_315 : Cond.selects RX11 yX11_of yX11_of ∈ gWS := List.mem_filter.mpr ⟨(tk_3 _ (List.mem_of_getElem? (i := 55) rfl)), rfl⟩
theorem kw_316 : Cond.code yX11_of cX11_of 3 (some .int) ∈ gWS := List.mem_filter.mpr ⟨(tk_3 _ (List.mem_of_getElem? (i := 56) rfl)), rfl⟩
theorem kw_317 : Cond.fieldLink RX11 115 "CornerTown$Town" "x" "[I" ∈ gWS := List.mem_filter.mpr ⟨(tk_1 _ (List.mem_of_getElem? (i := 66) rfl)), rfl⟩
theorem kw_318 : Cond.fieldLink RX11 118 "CornerTown$Town" "y" "[I" ∈ gWS := List.mem_filter.mpr ⟨(tk_1 _ (List.mem_of_getElem? (i := 68) rfl)), rfl⟩
theorem kw_319 : Cond.fieldLink RX11 121 "CornerTown$Town" "wide" "[I" ∈ gWS := List.mem_filter.mpr ⟨(tk_1 _ (List.mem_of_getElem? (i := 71) rfl)), rfl⟩
theorem kw_320 : Cond.fieldLink RX11 124 "CornerTown$Town" "deep" "[I" ∈ gWS := List.mem_filter.mpr ⟨(tk_1 _ (List.mem_of_getElem? (i := 74) rfl)), rfl⟩
theorem kw_321 : Cond.fieldLink RX11 127 "CornerTown$Town" "ranks" "[I" ∈ gWS := List.mem_filter.mpr ⟨(tk_1 _ (List.mem_of_getElem? (i := 77) rfl)), rfl⟩
theorem kw_322 : Cond.fieldLink RX11 130 "CornerTown$Town" "standing" "I" ∈ gWS := List.mem_filter.mpr ⟨(tk_1 _ (List.mem_of_getElem? (i := 88) rfl)), rfl⟩
theorem kw_323 : Cond.methodLink RX11 111 yX10_has ∈ gWS := List.mem_filter.mpr ⟨(tk_3 _ (List.mem_of_getElem? (i := 57) rfl)), rfl⟩
theorem kw_324 : Cond.methodLink RX11 133 yX11_bitOf ∈ gWS := List.mem_filter.mpr ⟨(tk_3 _ (List.mem_of_getElem? (i := 58) rfl)), rfl⟩
theorem kw_325 : Cond.static yX11_bitOf ∈ gWS := List.mem_filter.mpr ⟨(tk_3 _ (List.mem_of_getElem? (i := 59) rfl)), rfl⟩
theorem kw_326 : Cond.code yX11_bitOf cX11_bitOf 2 (some .int) ∈ gWS := List.mem_filter.mpr ⟨(tk_3 _ (List.mem_of_getElem? (i := 60) rfl)), rfl⟩
theorem kw_327 : Cond.methodLink RL 22 yX12_of ∈ gWS := List.mem_filter.mpr ⟨(tk_7 _ (List.mem_of_getElem? (i := 42) rfl)), rfl⟩
theorem kw_328 : Cond.instanceMethod yX12_of ∈ gWS := List.mem_filter.mpr ⟨(tk_7 _ (List.mem_of_getElem? (i := 43) rfl)), rfl⟩
theorem kw_329 : Cond.selects RX12 yX12_of yX12_of ∈ gWS := List.mem_filter.mpr ⟨(tk_7 _ (List.mem_of_getElem? (i := 44) rfl)), rfl⟩
theorem kw_330 : Cond.code yX12_of cX12_of 3 (some .int) ∈ gWS := List.mem_filter.mpr ⟨(tk_7 _ (List.mem_of_getElem? (i := 45) rfl)), rfl⟩
theorem kw_331 : Cond.methodLink RX12 150 yX12_isHouse ∈ gWS := List.mem_filter.mpr ⟨(tk_7 _ (List.mem_of_getElem? (i := 46) rfl)), rfl⟩
theorem kw_332 : Cond.instanceMethod yX12_isHouse ∈ gWS := List.mem_filter.mpr ⟨(tk_7 _ (List.mem_of_getElem? (i := 48) rfl)), rfl⟩
theorem kw_333 : Cond.selects RX12 yX12_isHouse yX12_isHouse ∈ gWS := List.mem_filter.mpr ⟨(List.mem_append_left _ (List.mem_of_getElem? (i := 59) rfl)), rfl⟩
theorem kw_334 : Cond.code yX12_isHouse cX12_isHouse 2 (some .boolean) ∈ gWS := List.mem_filter.mpr ⟨(tk_7 _ (List.mem_of_getElem? (i := 49) rfl)), rfl⟩
theorem kw_335 : Cond.methodLink RL 23 yX11_rank ∈ gWS := List.mem_filter.mpr ⟨(tk_3 _ (List.mem_of_getElem? (i := 61) rfl)), rfl⟩
theorem kw_336 : Cond.instanceMethod yX11_rank ∈ gWS := List.mem_filter.mpr ⟨(tk_3 _ (List.mem_of_getElem? (i := 62) rfl)), rfl⟩
theorem kw_337 : Cond.selects RX11 yX11_rank yX11_rank ∈ gWS := List.mem_filter.mpr ⟨(tk_3 _ (List.mem_of_getElem? (i := 63) rfl)), rfl⟩
theorem kw_338 : Cond.code yX11_rank cX11_rank 4 (some .int) ∈ gWS := List.mem_filter.mpr ⟨(tk_3 _ (List.mem_of_getElem? (i := 64) rfl)), rfl⟩
theorem kw_339 : Cond.fieldLink RX11 141 "CornerTown$Town" "changes" "I" ∈ gWS := List.mem_filter.mpr ⟨(tk_1 _ (List.mem_of_getElem? (i := 126) rfl)), rfl⟩
theorem kw_340 : Cond.methodLink RL 26 yX12_rank ∈ gWS := List.mem_filter.mpr ⟨(tk_7 _ (List.mem_of_getElem? (i := 50) rfl)), rfl⟩
theorem kw_341 : Cond.instanceMethod yX12_rank ∈ gWS := List.mem_filter.mpr ⟨(tk_7 _ (List.mem_of_getElem? (i := 51) rfl)), rfl⟩
theorem kw_342 : Cond.selects RX12 yX12_rank yX12_rank ∈ gWS := List.mem_filter.mpr ⟨(tk_7 _ (List.mem_of_getElem? (i := 52) rfl)), rfl⟩
theorem kw_343 : Cond.code yX12_rank cX12_rank 4 (some .int) ∈ gWS := List.mem_filter.mpr ⟨(tk_7 _ (List.mem_of_getElem? (i := 53) rfl)), rfl⟩
theorem kw_344 : Cond.methodLink RL 27 yX11_stand ∈ gWS := List.mem_filter.mpr ⟨(tk_3 _ (List.mem_of_getElem? (i := 65) rfl)), rfl⟩
theorem kw_345 : Cond.instanceMethod yX11_stand ∈ gWS := List.mem_filter.mpr ⟨(tk_3 _ (List.mem_of_getElem? (i := 66) rfl)), rfl⟩
theorem kw_346 : Cond.selects RX11 yX11_stand yX11_stand ∈ gWS := List.mem_filter.mpr ⟨(tk_3 _ (List.mem_of_getElem? (i := 67) rfl)), rfl⟩
theorem kw_347 : Cond.code yX11_stand cX11_stand 4 (some .int) ∈ gWS := List.mem_filter.mpr ⟨(tk_3 _ (List.mem_of_getElem? (i := 68) rfl)), rfl⟩
theorem kw_348 : Cond.methodLink RL 30 yX12_stand ∈ gWS := List.mem_filter.mpr ⟨(tk_7 _ (List.mem_of_getElem? (i := 54) rfl)), rfl⟩
theorem kw_349 : Cond.instanceMethod yX12_stand ∈ gWS := List.mem_filter.mpr ⟨(tk_7 _ (List.mem_of_getElem? (i := 55) rfl)), rfl⟩
theorem kw_350 : Cond.selects RX12 yX12_stand yX12_stand ∈ gWS := List.mem_filter.mpr ⟨(tk_7 _ (List.mem_of_getElem? (i := 56) rfl)), rfl⟩
theorem kw_351 : Cond.code yX12_stand cX12_stand 4 (some .int) ∈ gWS := List.mem_filter.mpr ⟨(tk_7 _ (List.mem_of_getElem? (i := 57) rfl)), rfl⟩
theorem kw_352 : Cond.methodLink RL 31 yX11_at ∈ gWS := List.mem_filter.mpr ⟨(tk_3 _ (List.mem_of_getElem? (i := 69) rfl)), rfl⟩
theorem kw_353 : Cond.instanceMethod yX11_at ∈ gWS := List.mem_filter.mpr ⟨(tk_3 _ (List.mem_of_getElem? (i := 70) rfl)), rfl⟩
theorem kw_354 : Cond.selects RX11 yX11_at yX11_at ∈ gWS := List.mem_filter.mpr ⟨(tk_3 _ (List.mem_of_getElem? (i := 71) rfl)), rfl⟩
theorem kw_355 : Cond.code yX11_at cX11_at 4 (some .int) ∈ gWS := List.mem_filter.mpr ⟨(tk_3 _ (List.mem_of_getElem? (i := 72) rfl)), rfl⟩
theorem kw_356 : Cond.fieldLink RX11 144 "CornerTown$Town" "houses" "I" ∈ gWS := List.mem_filter.mpr ⟨(tk_1 _ (List.mem_of_getElem? (i := 83) rfl)), rfl⟩
theorem kw_357 : Cond.methodLink RX11 147 yX10_lies ∈ gWS := List.mem_filter.mpr ⟨(tk_3 _ (List.mem_of_getElem? (i := 73) rfl)), rfl⟩
theorem kw_358 : Cond.instanceMethod yX10_lies ∈ gWS := List.mem_filter.mpr ⟨(tk_3 _ (List.mem_of_getElem? (i := 74) rfl)), rfl⟩
theorem kw_359 : Cond.selects RX10 yX10_lies yX10_lies ∈ gWS := List.mem_filter.mpr ⟨(tk_3 _ (List.mem_of_getElem? (i := 75) rfl)), rfl⟩
theorem kw_360 : Cond.code yX10_lies cX10_lies 4 (some .boolean) ∈ gWS := List.mem_filter.mpr ⟨(tk_3 _ (List.mem_of_getElem? (i := 76) rfl)), rfl⟩
theorem kw_361 : Cond.methodLink RL 34 yX12_at ∈ gWS := List.mem_filter.mpr ⟨(tk_7 _ (List.mem_of_getElem? (i := 58) rfl)), rfl⟩
theorem kw_362 : Cond.instanceMethod yX12_at ∈ gWS := List.mem_filter.mpr ⟨(tk_7 _ (List.mem_of_getElem? (i := 59) rfl)), rfl⟩
theorem kw_363 : Cond.selects RX12 yX12_at yX12_at ∈ gWS := List.mem_filter.mpr ⟨(tk_7 _ (List.mem_of_getElem? (i := 60) rfl)), rfl⟩
theorem kw_364 : Cond.code yX12_at cX12_at 3 (some .int) ∈ gWS := List.mem_filter.mpr ⟨(tk_7 _ (List.mem_of_getElem? (i := 61) rfl)), rfl⟩
theorem kw_365 : Cond.methodLink RL 35 yX11_terms ∈ gWS := List.mem_filter.mpr ⟨(tk_3 _ (List.mem_of_getElem? (i := 77) rfl)), rfl⟩
theorem kw_366 : Cond.instanceMethod yX11_terms ∈ gWS := List.mem_filter.mpr ⟨(tk_3 _ (List.mem_of_getElem? (i := 78) rfl)), rfl⟩
theorem kw_367 : Cond.selects RX11 yX11_terms yX11_terms ∈ gWS := List.mem_filter.mpr ⟨(tk_3 _ (List.mem_of_getElem? (i := 79) rfl)), rfl⟩
theorem kw_368 : Cond.code yX11_terms cX11_terms 4 (some .int) ∈ gWS := List.mem_filter.mpr ⟨(tk_3 _ (List.mem_of_getElem? (i := 80) rfl)), rfl⟩
theorem kw_369 : Cond.fieldLink RX11 150 "CornerTown$Town" "hour" "I" ∈ gWS := List.mem_filter.mpr ⟨(tk_1 _ (List.mem_of_getElem? (i := 109) rfl)), rfl⟩
theorem kw_370 : Cond.fieldLink RX11 153 "CornerTown$Town" "day" "I" ∈ gWS := List.mem_filter.mpr ⟨(tk_1 _ (List.mem_of_getElem? (i := 113) rfl)), rfl⟩
theorem kw_371 : Cond.methodLink RL 38 yX12_terms ∈ gWS := List.mem_filter.mpr ⟨(tk_7 _ (List.mem_of_getElem? (i := 62) rfl)), rfl⟩
theorem kw_372 : Cond.instanceMethod yX12_terms ∈ gWS := List.mem_filter.mpr ⟨(tk_7 _ (List.mem_of_getElem? (i := 63) rfl)), rfl⟩
theorem kw_373 : Cond.selects RX12 yX12_terms yX12_terms ∈ gWS := List.mem_filter.mpr ⟨(tk_7 _ (List.mem_of_getElem? (i := 64) rfl)), rfl⟩
theorem kw_374 : Cond.code yX12_terms cX12_terms 4 (some .int) ∈ gWS := List.mem_filter.mpr ⟨(tk_7 _ (List.mem_of_getElem? (i := 65) rfl)), rfl⟩
theorem kw_375 : Cond.methodLink RL 39 yX11_door ∈ gWS := List.mem_filter.mpr ⟨(tk_3 _ (List.mem_of_getElem? (i := 81) rfl)), rfl⟩
theorem kw_376 : Cond.instanceMethod yX11_door ∈ gWS := List.mem_filter.mpr ⟨(tk_3 _ (List.mem_of_getElem? (i := 82) rfl)), rfl⟩
theorem kw_377 : Cond.selects RX11 yX11_door yX11_door ∈ gWS := List.mem_filter.mpr ⟨(tk_3 _ (List.mem_of_getElem? (i := 83) rfl)), rfl⟩
theorem kw_378 : Cond.code yX11_door cX11_door 3 (some .int) ∈ gWS := List.mem_filter.mpr ⟨(tk_3 _ (List.mem_of_getElem? (i := 84) rfl)), rfl⟩
theorem kw_379 : Cond.fieldLink RX11 156 "CornerTown$Town" "doorRows" "[I" ∈ gWS := List.mem_filter.mpr ⟨(tk_1 _ (List.mem_of_getElem? (i := 98) rfl)), rfl⟩
theorem kw_380 : Cond.fieldLink RX11 159 "CornerTown$Town" "doorCount" "I" ∈ gWS := List.mem_filter.mpr ⟨(tk_1 _ (List.mem_of_getElem? (i := 100) rfl)), rfl⟩
theorem kw_381 : Cond.methodLink RX11 162 yX10_turnDoor ∈ gWS := List.mem_filter.mpr ⟨(tk_3 _ (List.mem_of_getElem? (i := 85) rfl)), rfl⟩
theorem kw_382 : Cond.instanceMethod yX10_turnDoor ∈ gWS := List.mem_filter.mpr ⟨(tk_3 _ (List.mem_of_getElem? (i := 86) rfl)), rfl⟩
theorem kw_383 : Cond.selects RX10 yX10_turnDoor yX10_turnDoor ∈ gWS := List.mem_filter.mpr ⟨(tk_3 _ (List.mem_of_getElem? (i := 87) rfl)), rfl⟩
theorem kw_384 : Cond.code yX10_turnDoor cX10_turnDoor 3 none ∈ gWS := List.mem_filter.mpr ⟨(tk_3 _ (List.mem_of_getElem? (i := 88) rfl)), rfl⟩
theorem kw_385 : Cond.methodLink RX10 100 yX10_hasTwo ∈ gWS := List.mem_filter.mpr ⟨(tk_3 _ (List.mem_of_getElem? (i := 89) rfl)), rfl⟩
theorem kw_386 : Cond.instanceMethod yX10_hasTwo ∈ gWS := List.mem_filter.mpr ⟨(tk_3 _ (List.mem_of_getElem? (i := 90) rfl)), rfl⟩
theorem kw_387 : Cond.selects RX10 yX10_hasTwo yX10_hasTwo ∈ gWS := List.mem_filter.mpr ⟨(tk_3 _ (List.mem_of_getElem? (i := 91) rfl)), rfl⟩
theorem kw_388 : Cond.code yX10_hasTwo cX10_hasTwo 3 (some .boolean) ∈ gWS := List.mem_filter.mpr ⟨(tk_3 _ (List.mem_of_getElem? (i := 92) rfl)), rfl⟩
theorem kw_389 : Cond.methodLink RL 42 yX12_door ∈ gWS := List.mem_filter.mpr ⟨(tk_7 _ (List.mem_of_getElem? (i := 66) rfl)), rfl⟩
theorem kw_390 : Cond.instanceMethod yX12_door ∈ gWS := List.mem_filter.mpr ⟨(tk_7 _ (List.mem_of_getElem? (i := 67) rfl)), rfl⟩
theorem kw_391 : Cond.selects RX12 yX12_door yX12_door ∈ gWS := List.mem_filter.mpr ⟨(tk_7 _ (List.mem_of_getElem? (i := 68) rfl)), rfl⟩
theorem kw_392 : Cond.code yX12_door cX12_door 3 (some .int) ∈ gWS := List.mem_filter.mpr ⟨(tk_7 _ (List.mem_of_getElem? (i := 69) rfl)), rfl⟩
theorem kw_393 : Cond.methodLink RX12 153 yX12_hasDoor ∈ gWS := List.mem_filter.mpr ⟨(tk_7 _ (List.mem_of_getElem? (i := 70) rfl)), rfl⟩
theorem kw_394 : Cond.instanceMethod yX12_hasDoor ∈ gWS := List.mem_filter.mpr ⟨(tk_7 _ (List.mem_of_getElem? (i := 72) rfl)), rfl⟩
theorem kw_395 : Cond.selects RX12 yX12_hasDoor yX12_hasDoor ∈ gWS := List.mem_filter.mpr ⟨(List.mem_append_left _ (List.mem_of_getElem? (i := 60) rfl)), rfl⟩
theorem kw_396 : Cond.code yX12_hasDoor cX12_hasDoor 3 (some .boolean) ∈ gWS := List.mem_filter.mpr ⟨(tk_7 _ (List.mem_of_getElem? (i := 73) rfl)), rfl⟩
theorem kw_397 : Cond.methodLink RX12 157 yX12_doorMany ∈ gWS := List.mem_filter.mpr ⟨(tk_7 _ (List.mem_of_getElem? (i := 74) rfl)), rfl⟩
theorem kw_398 : Cond.instanceMethod yX12_doorMany ∈ gWS := List.mem_filter.mpr ⟨(tk_7 _ (List.mem_of_getElem? (i := 76) rfl)), rfl⟩
theorem kw_399 : Cond.selects RX12 yX12_doorMany yX12_doorMany ∈ gWS := List.mem_filter.mpr ⟨(List.mem_append_left _ (List.mem_of_getElem? (i := 61) rfl)), rfl⟩
theorem kw_400 : Cond.code yX12_doorMany cX12_doorMany 4 (some .int) ∈ gWS := List.mem_filter.mpr ⟨(tk_7 _ (List.mem_of_getElem? (i := 77) rfl)), rfl⟩
theorem kw_401 : Cond.methodLink RX12 160 yX12_setsDoor ∈ gWS := List.mem_filter.mpr ⟨(tk_7 _ (List.mem_of_getElem? (i := 78) rfl)), rfl⟩
theorem kw_402 : Cond.instanceMethod yX12_setsDoor ∈ gWS := List.mem_filter.mpr ⟨(tk_7 _ (List.mem_of_getElem? (i := 80) rfl)), rfl⟩
theorem kw_403 : Cond.selects RX12 yX12_setsDoor yX12_setsDoor ∈ gWS := List.mem_filter.mpr ⟨(List.mem_append_left _ (List.mem_of_getElem? (i := 62) rfl)), rfl⟩
theorem kw_404 : Cond.code yX12_setsDoor cX12_setsDoor 4 none ∈ gWS := List.mem_filter.mpr ⟨(tk_7 _ (List.mem_of_getElem? (i := 81) rfl)), rfl⟩
theorem kw_405 : Cond.methodLink RL 43 yX11_wall ∈ gWS := List.mem_filter.mpr ⟨(tk_3 _ (List.mem_of_getElem? (i := 93) rfl)), rfl⟩
theorem kw_406 : Cond.instanceMethod yX11_wall ∈ gWS := List.mem_filter.mpr ⟨(tk_3 _ (List.mem_of_getElem? (i := 94) rfl)), rfl⟩
theorem kw_407 : Cond.selects RX11 yX11_wall yX11_wall ∈ gWS := List.mem_filter.mpr ⟨(tk_3 _ (List.mem_of_getElem? (i := 95) rfl)), rfl⟩
theorem kw_408 : Cond.code yX11_wall cX11_wall 3 (some .int) ∈ gWS := List.mem_filter.mpr ⟨(tk_3 _ (List.mem_of_getElem? (i := 96) rfl)), rfl⟩
theorem kw_409 : Cond.methodLink RL 46 yX12_wall ∈ gWS := List.mem_filter.mpr ⟨(tk_7 _ (List.mem_of_getElem? (i := 82) rfl)), rfl⟩
theorem kw_410 : Cond.instanceMethod yX12_wall ∈ gWS := List.mem_filter.mpr ⟨(tk_7 _ (List.mem_of_getElem? (i := 83) rfl)), rfl⟩
theorem kw_411 : Cond.selects RX12 yX12_wall yX12_wall ∈ gWS := List.mem_filter.mpr ⟨(tk_7 _ (List.mem_of_getElem? (i := 84) rfl)), rfl⟩
theorem kw_412 : Cond.code yX12_wall cX12_wall 3 (some .int) ∈ gWS := List.mem_filter.mpr ⟨(tk_7 _ (List.mem_of_getElem? (i := 85) rfl)), rfl⟩
theorem kw_413 : Cond.methodLink RL 47 yX11_feed ∈ gWS := List.mem_filter.mpr ⟨(tk_3 _ (List.mem_of_getElem? (i := 97) rfl)), rfl⟩
theorem kw_414 : Cond.instanceMethod yX11_feed ∈ gWS := List.mem_filter.mpr ⟨(tk_3 _ (List.mem_of_getElem? (i := 98) rfl)), rfl⟩
theorem kw_415 : Cond.selects RX11 yX11_feed yX11_feed ∈ gWS := List.mem_filter.mpr ⟨(tk_3 _ (List.mem_of_getElem? (i := 99) rfl)), rfl⟩
theorem kw_416 : Cond.code yX11_feed cX11_feed 6 (some .int) ∈ gWS := List.mem_filter.mpr ⟨(tk_3 _ (List.mem_of_getElem? (i := 100) rfl)), rfl⟩
theorem kw_417 : Cond.methodLink RX11 166 yX11_feedFour ∈ gWS := List.mem_filter.mpr ⟨(tk_3 _ (List.mem_of_getElem? (i := 101) rfl)), rfl⟩
theorem kw_418 : Cond.instanceMethod yX11_feedFour ∈ gWS := List.mem_filter.mpr ⟨(tk_3 _ (List.mem_of_getElem? (i := 103) rfl)), rfl⟩
theorem kw_419 : Cond.selects RX11 yX11_feedFour yX11_feedFour ∈ gWS := List.mem_filter.mpr ⟨(List.mem_append_left _ (List.mem_of_getElem? (i := 2) rfl)), rfl⟩
theorem kw_420 : Cond.code yX11_feedFour cX11_feedFour 3 none ∈ gWS := List.mem_filter.mpr ⟨(tk_3 _ (List.mem_of_getElem? (i := 104) rfl)), rfl⟩
theorem kw_421 : Cond.methodLink RL 50 yX12_feed ∈ gWS := List.mem_filter.mpr ⟨(tk_7 _ (List.mem_of_getElem? (i := 94) rfl)), rfl⟩
theorem kw_422 : Cond.instanceMethod yX12_feed ∈ gWS := List.mem_filter.mpr ⟨(tk_7 _ (List.mem_of_getElem? (i := 95) rfl)), rfl⟩
theorem kw_423 : Cond.selects RX12 yX12_feed yX12_feed ∈ gWS := List.mem_filter.mpr ⟨(tk_7 _ (List.mem_of_getElem? (i := 96) rfl)), rfl⟩
theorem kw_424 : Cond.code yX12_feed cX12_feed 7 (some .int) ∈ gWS := List.mem_filter.mpr ⟨(tk_7 _ (List.mem_of_getElem? (i := 97) rfl)), rfl⟩
theorem kw_425 : Cond.fieldLink RX12 164 "CornerTownModel" "taped" "I" ∈ gWS := List.mem_filter.mpr ⟨(tk_6 _ (List.mem_of_getElem? (i := 90) rfl)), rfl⟩
theorem kw_426 : Cond.methodLink RL 51 yX11_end ∈ gWS := List.mem_filter.mpr ⟨(tk_3 _ (List.mem_of_getElem? (i := 105) rfl)), rfl⟩
theorem kw_427 : Cond.instanceMethod yX11_end ∈ gWS := List.mem_filter.mpr ⟨(tk_3 _ (List.mem_of_getElem? (i := 106) rfl)), rfl⟩
theorem kw_428 : Cond.selects RX11 yX11_end yX11_end ∈ gWS := List.mem_filter.mpr ⟨(tk_3 _ (List.mem_of_getElem? (i := 107) rfl)), rfl⟩
theorem kw_429 : Cond.code yX11_end cX11_end 2 (some .int) ∈ gWS := List.mem_filter.mpr ⟨(tk_3 _ (List.mem_of_getElem? (i := 108) rfl)), rfl⟩
theorem kw_430 : Cond.methodLink RL 55 yX12_end ∈ gWS := List.mem_filter.mpr ⟨(tk_7 _ (List.mem_of_getElem? (i := 98) rfl)), rfl⟩
theorem kw_431 : Cond.instanceMethod yX12_end ∈ gWS := List.mem_filter.mpr ⟨(tk_7 _ (List.mem_of_getElem? (i := 99) rfl)), rfl⟩
theorem kw_432 : Cond.selects RX12 yX12_end yX12_end ∈ gWS := List.mem_filter.mpr ⟨(tk_7 _ (List.mem_of_getElem? (i := 100) rfl)), rfl⟩
theorem kw_433 : Cond.code yX12_end cX12_end 2 (some .int) ∈ gWS := List.mem_filter.mpr ⟨(tk_7 _ (List.mem_of_getElem? (i := 101) rfl)), rfl⟩
theorem kw_434 : Cond.methodLink RL 56 yX11_row ∈ gWS := List.mem_filter.mpr ⟨(tk_3 _ (List.mem_of_getElem? (i := 109) rfl)), rfl⟩
theorem kw_435 : Cond.instanceMethod yX11_row ∈ gWS := List.mem_filter.mpr ⟨(tk_3 _ (List.mem_of_getElem? (i := 110) rfl)), rfl⟩
theorem kw_436 : Cond.selects RX11 yX11_row yX11_row ∈ gWS := List.mem_filter.mpr ⟨(tk_3 _ (List.mem_of_getElem? (i := 111) rfl)), rfl⟩
theorem kw_437 : Cond.code yX11_row cX11_row 5 (some .int) ∈ gWS := List.mem_filter.mpr ⟨(tk_3 _ (List.mem_of_getElem? (i := 112) rfl)), rfl⟩
theorem kw_438 : Cond.methodLink RX11 170 yX11_buildFrom ∈ gWS := List.mem_filter.mpr ⟨(tk_3 _ (List.mem_of_getElem? (i := 113) rfl)), rfl⟩
theorem kw_439 : Cond.instanceMethod yX11_buildFrom ∈ gWS := List.mem_filter.mpr ⟨(tk_3 _ (List.mem_of_getElem? (i := 115) rfl)), rfl⟩
theorem kw_440 : Cond.selects RX11 yX11_buildFrom yX11_buildFrom ∈ gWS := List.mem_filter.mpr ⟨(List.mem_append_left _ (List.mem_of_getElem? (i := 3) rfl)), rfl⟩
theorem kw_441 : Cond.code yX11_buildFrom cX11_buildFrom 7 (some .boolean) ∈ gWS := List.mem_filter.mpr ⟨(tk_3 _ (List.mem_of_getElem? (i := 116) rfl)), rfl⟩
theorem kw_442 : Cond.methodLink RL 60 yX12_row ∈ gWS := List.mem_filter.mpr ⟨(tk_7 _ (List.mem_of_getElem? (i := 86) rfl)), rfl⟩
theorem kw_443 : Cond.instanceMethod yX12_row ∈ gWS := List.mem_filter.mpr ⟨(tk_7 _ (List.mem_of_getElem? (i := 87) rfl)), rfl⟩
theorem kw_444 : Cond.selects RX12 yX12_row yX12_row ∈ gWS := List.mem_filter.mpr ⟨(tk_7 _ (List.mem_of_getElem? (i := 88) rfl)), rfl⟩
theorem kw_445 : Cond.code yX12_row cX12_row 5 (some .int) ∈ gWS := List.mem_filter.mpr ⟨(tk_7 _ (List.mem_of_getElem? (i := 89) rfl)), rfl⟩
theorem kw_446 : Cond.fieldLink RX12 167 "CornerTownModel" "ruin0" "I" ∈ gWS := List.mem_filter.mpr ⟨(tk_6 _ (List.mem_of_getElem? (i := 86) rfl)), rfl⟩
theorem kw_447 : Cond.methodLink RL 61 yX11_ruin ∈ gWS := List.mem_filter.mpr ⟨(tk_3 _ (List.mem_of_getElem? (i := 117) rfl)), rfl⟩
theorem kw_448 : Cond.instanceMethod yX11_ruin ∈ gWS := List.mem_filter.mpr ⟨(tk_3 _ (List.mem_of_getElem? (i := 118) rfl)), rfl⟩
theorem kw_449 : Cond.selects RX11 yX11_ruin yX11_ruin ∈ gWS := List.mem_filter.mpr ⟨(tk_3 _ (List.mem_of_getElem? (i := 119) rfl)), rfl⟩
theorem kw_450 : Cond.code yX11_ruin cX11_ruin 1 (some .int) ∈ gWS := List.mem_filter.mpr ⟨(tk_3 _ (List.mem_of_getElem? (i := 120) rfl)), rfl⟩
theorem kw_451 : Cond.methodLink RL 64 yX12_ruin ∈ gWS := List.mem_filter.mpr ⟨(tk_7 _ (List.mem_of_getElem? (i := 90) rfl)), rfl⟩
theorem kw_452 : Cond.instanceMethod yX12_ruin ∈ gWS := List.mem_filter.mpr ⟨(tk_7 _ (List.mem_of_getElem? (i := 91) rfl)), rfl⟩
theorem kw_453 : Cond.selects RX12 yX12_ruin yX12_ruin ∈ gWS := List.mem_filter.mpr ⟨(tk_7 _ (List.mem_of_getElem? (i := 92) rfl)), rfl⟩
theorem kw_454 : Cond.code yX12_ruin cX12_ruin 1 (some .int) ∈ gWS := List.mem_filter.mpr ⟨(tk_7 _ (List.mem_of_getElem? (i := 93) rfl)), rfl⟩
theorem kw_455 : Cond.methodLink RL 65 yX11_law ∈ gWS := List.mem_filter.mpr ⟨(tk_3 _ (List.mem_of_getElem? (i := 121) rfl)), rfl⟩
theorem kw_456 : Cond.instanceMethod yX11_law ∈ gWS := List.mem_filter.mpr ⟨(tk_3 _ (List.mem_of_getElem? (i := 122) rfl)), rfl⟩
theorem kw_457 : Cond.selects RX11 yX11_law yX11_law ∈ gWS := List.mem_filter.mpr ⟨(tk_3 _ (List.mem_of_getElem? (i := 123) rfl)), rfl⟩
theorem kw_458 : Cond.code yX11_law cX11_law 3 (some .int) ∈ gWS := List.mem_filter.mpr ⟨(tk_3 _ (List.mem_of_getElem? (i := 124) rfl)), rfl⟩
theorem kw_459 : Cond.fieldLink RX11 173 "CornerTown$Town" "lawCount" "I" ∈ gWS := List.mem_filter.mpr ⟨(tk_1 _ (List.mem_of_getElem? (i := 104) rfl)), rfl⟩
theorem kw_460 : Cond.fieldLink RX11 184 "CornerTown$Town" "laws" "[LCornerTown$Law;" ∈ gWS := List.mem_filter.mpr ⟨(tk_1 _ (List.mem_of_getElem? (i := 102) rfl)), rfl⟩
theorem kw_461 : Cond.methodLink RX11 176 yX6_read ∈ gWS := List.mem_filter.mpr ⟨(tk_3 _ (List.mem_of_getElem? (i := 125) rfl)), rfl⟩
theorem kw_462 : Cond.instanceMethod yX6_read ∈ gWS := List.mem_filter.mpr ⟨(tk_3 _ (List.mem_of_getElem? (i := 126) rfl)), rfl⟩
theorem kw_463 : Cond.selects RX6 yX6_read yX6_read ∈ gWS := List.mem_filter.mpr ⟨(tk_3 _ (List.mem_of_getElem? (i := 127) rfl)), rfl⟩
theorem kw_464 : Cond.code yX6_read cX6_read 3 (some (.object "CornerTown$Law")) ∈ gWS := List.mem_filter.mpr ⟨(tk_3 _ (List.mem_of_getElem? (i := 128) rfl)), rfl⟩
theorem kw_465 : Cond.classLink RX6 15 RX3 ∈ gWS := List.mem_filter.mpr ⟨(tk_4 _ (List.mem_of_getElem? (i := 29) rfl)), rfl⟩
theorem kw_466 : Cond.instantiable RX3 5 ∈ gWS := List.mem_filter.mpr ⟨(tk_4 _ (List.mem_of_getElem? (i := 30) rfl)), rfl⟩
theorem kw_467 : Cond.initialized RX3 ∈ gWS := List.mem_filter.mpr ⟨(tk_1 _ (List.mem_of_getElem? (i := 18) rfl)), rfl⟩
theorem kw_468 : Cond.methodLink RX6 55 yX6_begin ∈ gWS := List.mem_filter.mpr ⟨(tk_3 _ (List.mem_of_getElem? (i := 129) rfl)), rfl⟩
theorem kw_469 : Cond.instanceMethod yX6_begin ∈ gWS := List.mem_filter.mpr ⟨(tk_3 _ (List.mem_of_getElem? (i := 131) rfl)), rfl⟩
theorem kw_470 : Cond.selects RX6 yX6_begin yX6_begin ∈ gWS := List.mem_filter.mpr ⟨(List.mem_append_left _ (List.mem_of_getElem? (i := 4) rfl)), rfl⟩
theorem kw_471 : Cond.code yX6_begin cX6_begin 2 none ∈ gWS := List.mem_filter.mpr ⟨(tk_3 _ (List.mem_of_getElem? (i := 132) rfl)), rfl⟩
theorem kw_472 : Cond.methodLink RX6 73 Lib.Math.min.name ∈ gWS := List.mem_filter.mpr ⟨(tk_3 _ (List.mem_of_getElem? (i := 133) rfl)), rfl⟩
theorem kw_473 : Cond.methodLink RX6 79 Lib.Math.max.name ∈ gWS := List.mem_filter.mpr ⟨(tk_3 _ (List.mem_of_getElem? (i := 134) rfl)), rfl⟩
theorem kw_474 : Cond.methodLink RX6 70 yX6_goOn ∈ gWS := List.mem_filter.mpr ⟨(tk_3 _ (List.mem_of_getElem? (i := 135) rfl)), rfl⟩
theorem kw_475 : Cond.instanceMethod yX6_goOn ∈ gWS := List.mem_filter.mpr ⟨(tk_3 _ (List.mem_of_getElem? (i := 137) rfl)), rfl⟩
theorem kw_476 : Cond.selects RX6 yX6_goOn yX6_goOn ∈ gWS := List.mem_filter.mpr ⟨(List.mem_append_left _ (List.mem_of_getElem? (i := 5) rfl)), rfl⟩
theorem kw_477 : Cond.code yX6_goOn cX6_goOn 1 none ∈ gWS := List.mem_filter.mpr ⟨(tk_3 _ (List.mem_of_getElem? (i := 138) rfl)), rfl⟩
theorem kw_478 : Cond.methodLink RX6 82 yX6_kindOf ∈ gWS := List.mem_filter.mpr ⟨(tk_3 _ (List.mem_of_getElem? (i := 139) rfl)), rfl⟩
theorem kw_479 : Cond.static yX6_kindOf ∈ gWS := List.mem_filter.mpr ⟨(tk_3 _ (List.mem_of_getElem? (i := 140) rfl)), rfl⟩
theorem kw_480 : Cond.code yX6_kindOf cX6_kindOf 1 (some .int) ∈ gWS := List.mem_filter.mpr ⟨(tk_3 _ (List.mem_of_getElem? (i := 141) rfl)), rfl⟩
theorem kw_481 : Cond.methodLink RX6 59 yX6_readClause ∈ gWS := List.mem_filter.mpr ⟨(tk_3 _ (List.mem_of_getElem? (i := 142) rfl)), rfl⟩
theorem kw_482 : Cond.instanceMethod yX6_readClause ∈ gWS := List.mem_filter.mpr ⟨(tk_3 _ (List.mem_of_getElem? (i := 144) rfl)), rfl⟩
theorem kw_483 : Cond.selects RX6 yX6_readClause yX6_readClause ∈ gWS := List.mem_filter.mpr ⟨(List.mem_append_left _ (List.mem_of_getElem? (i := 6) rfl)), rfl⟩
theorem kw_484 : Cond.code yX6_readClause cX6_readClause 3 (some .boolean) ∈ gWS := List.mem_filter.mpr ⟨(tk_3 _ (List.mem_of_getElem? (i := 145) rfl)), rfl⟩
theorem kw_485 : Cond.methodLink RX6 97 yX6_isWord ∈ gWS := List.mem_filter.mpr ⟨(tk_3 _ (List.mem_of_getElem? (i := 147) rfl)), rfl⟩
theorem kw_486 : Cond.instanceMethod yX6_isWord ∈ gWS := List.mem_filter.mpr ⟨(tk_3 _ (List.mem_of_getElem? (i := 149) rfl)), rfl⟩
theorem kw_487 : Cond.selects RX6 yX6_isWord yX6_isWord ∈ gWS := List.mem_filter.mpr ⟨(List.mem_append_left _ (List.mem_of_getElem? (i := 7) rfl)), rfl⟩
theorem kw_488 : Cond.code yX6_isWord cX6_isWord 3 (some .boolean) ∈ gWS := List.mem_filter.mpr ⟨(tk_3 _ (List.mem_of_getElem? (i := 150) rfl)), rfl⟩
theorem kw_489 : Cond.methodLink RX6 86 yJ0_length_8abf5 ∈ gWS := List.mem_filter.mpr ⟨(tk_3 _ (List.mem_of_getElem? (i := 151) rfl)), rfl⟩
theorem kw_490 : Cond.instanceMethod yJ0_length_8abf5 ∈ gWS := List.mem_filter.mpr ⟨(tk_3 _ (List.mem_of_getElem? (i := 152) rfl)), rfl⟩
theorem kw_491 : Cond.selects RJ0 yJ0_length_8abf5 yJ0_length_8abf5 ∈ gWS := List.mem_filter.mpr ⟨(tk_3 _ (List.mem_of_getElem? (i := 153) rfl)), rfl⟩
theorem kw_492 : Cond.initialized RJ0 ∈ gWS := List.mem_filter.mpr ⟨(tk_1 _ (List.mem_of_getElem? (i := 14) rfl)), rfl⟩
theorem kw_493 : Cond.code yJ0_length_8abf5 cJ0_length_8abf5 1 (some .int) ∈ gWS := List.mem_filter.mpr ⟨(tk_3 _ (List.mem_of_getElem? (i := 154) rfl)), rfl⟩
theorem kw_494 : Cond.fieldLink RJ0 9 "java/lang/String" "value" "[B" ∈ gWS := List.mem_filter.mpr ⟨(tk_8 _ (List.mem_of_getElem? (i := 196) rfl)), rfl⟩
theorem kw_495 : Cond.methodLink RJ0 335 yJ0_coder_7d493 ∈ gWS := List.mem_filter.mpr ⟨(tk_3 _ (List.mem_of_getElem? (i := 155) rfl)), rfl⟩
theorem kw_496 : Cond.instanceMethod yJ0_coder_7d493 ∈ gWS := List.mem_filter.mpr ⟨(tk_3 _ (List.mem_of_getElem? (i := 156) rfl)), rfl⟩
theorem kw_497 : Cond.selects RJ0 yJ0_coder_7d493 yJ0_coder_7d493 ∈ gWS := List.mem_filter.mpr ⟨(tk_3 _ (List.mem_of_getElem? (i := 157) rfl)), rfl⟩
theorem kw_498 : Cond.code yJ0_coder_7d493 cJ0_coder_7d493 1 (some .byte) ∈ gWS := List.mem_filter.mpr ⟨(tk_3 _ (List.mem_of_getElem? (i := 158) rfl)), rfl⟩
theorem kw_499 : Cond.fieldLink RJ0 38 "java/lang/String" "COMPACT_STRINGS" "Z" ∈ gWS := List.mem_filter.mpr ⟨(tk_3 _ (List.mem_of_getElem? (i := 159) rfl)), rfl⟩
theorem kw_500 : Cond.fieldLink RJ0 15 "java/lang/String" "coder" "B" ∈ gWS := List.mem_filter.mpr ⟨(tk_8 _ (List.mem_of_getElem? (i := 197) rfl)), rfl⟩
theorem kw_501 : Cond.methodLink RX6 91 yJ0_charAt_5068e ∈ gWS := List.mem_filter.mpr ⟨(tk_3 _ (List.mem_of_getElem? (i := 161) rfl)), rfl⟩
theorem kw_502 : Cond.instanceMethod yJ0_charAt_5068e ∈ gWS := List.mem_filter.mpr ⟨(tk_3 _ (List.mem_of_getElem? (i := 162) rfl)), rfl⟩
theorem kw_503 : Cond.selects RJ0 yJ0_charAt_5068e yJ0_charAt_5068e ∈ gWS := List.mem_filter.mpr ⟨(tk_3 _ (List.mem_of_getElem? (i := 163) rfl)), rfl⟩
theorem kw_504 : Cond.code yJ0_charAt_5068e cJ0_charAt_5068e 2 (some .char) ∈ gWS := List.mem_filter.mpr ⟨(tk_3 _ (List.mem_of_getElem? (i := 164) rfl)), rfl⟩
theorem kw_505 : Cond.methodLink RJ0 492 yJ0_isLatin1_aae02 ∈ gWS := List.mem_filter.mpr ⟨(tk_3 _ (List.mem_of_getElem? (i := 165) rfl)), rfl⟩
theorem kw_506 : Cond.instanceMethod yJ0_isLatin1_aae02 ∈ gWS := List.mem_filter.mpr ⟨(tk_3 _ (List.mem_of_getElem? (i := 166) rfl)), rfl⟩
theorem kw_507 : Cond.selects RJ0 yJ0_isLatin1_aae02 yJ0_isLatin1_aae02 ∈ gWS := List.mem_filter.mpr ⟨(tk_3 _ (List.mem_of_getElem? (i := 167) rfl)), rfl⟩
theorem kw_508 : Cond.code yJ0_isLatin1_aae02 cJ0_isLatin1_aae02 1 (some .boolean) ∈ gWS := List.mem_filter.mpr ⟨(tk_3 _ (List.mem_of_getElem? (i := 168) rfl)), rfl⟩
theorem kw_509 : Cond.methodLink RJ0 495 yJ1_charAt_3b067 ∈ gWS := List.mem_filter.mpr ⟨(tk_3 _ (List.mem_of_getElem? (i := 169) rfl)), rfl⟩
theorem kw_510 : Cond.static yJ1_charAt_3b067 ∈ gWS := List.mem_filter.mpr ⟨(tk_3 _ (List.mem_of_getElem? (i := 170) rfl)), rfl⟩
theorem kw_511 : Cond.initialized RJ1 ∈ gWS := List.mem_filter.mpr ⟨(tk_1 _ (List.mem_of_getElem? (i := 15) rfl)), rfl⟩
theorem kw_512 : Cond.code yJ1_charAt_3b067 cJ1_charAt_3b067 2 (some .char) ∈ gWS := List.mem_filter.mpr ⟨(tk_3 _ (List.mem_of_getElem? (i := 171) rfl)), rfl⟩
theorem kw_513 : Cond.methodLink RJ1 9 yJ0_checkIndex_df160 ∈ gWS := List.mem_filter.mpr ⟨(tk_3 _ (List.mem_of_getElem? (i := 172) rfl)), rfl⟩
theorem kw_514 : Cond.static yJ0_checkIndex_df160 ∈ gWS := List.mem_filter.mpr ⟨(tk_3 _ (List.mem_of_getElem? (i := 173) rfl)), rfl⟩
theorem kw_515 : Cond.code yJ0_checkIndex_df160 cJ0_checkIndex_df160 2 none ∈ gWS := List.mem_filter.mpr ⟨(tk_3 _ (List.mem_of_getElem? (i := 174) rfl)), rfl⟩
theorem kw_516 : Cond.fieldLink RJ0 1053 "jdk/internal/util/Preconditions" "SIOOBE_FORMATTER" "Ljava/util/function/BiFunction;" ∈ gWS := List.mem_filter.mpr ⟨(tk_3 _ (List.mem_of_getElem? (i := 175) rfl)), rfl⟩
theorem kw_517 : Cond.methodLink RJ0 1059 yJ3_checkIndex_8e157 ∈ gWS := List.mem_filter.mpr ⟨(tk_3 _ (List.mem_of_getElem? (i := 177) rfl)), rfl⟩
theorem kw_518 : Cond.static yJ3_checkIndex_8e157 ∈ gWS := List.mem_filter.mpr ⟨(tk_3 _ (List.mem_of_getElem? (i := 178) rfl)), rfl⟩
theorem kw_519 : Cond.initialized RJ3 ∈ gWS := List.mem_filter.mpr ⟨(tk_1 _ (List.mem_of_getElem? (i := 16) rfl)), rfl⟩
theorem kw_520 : Cond.code yJ3_checkIndex_8e157 cJ3_checkIndex_8e157 3 (some .int) ∈ gWS := List.mem_filter.mpr ⟨(tk_3 _ (List.mem_of_getElem? (i := 179) rfl)), rfl⟩
theorem kw_521 : Cond.methodLink RJ0 498 yJ2_charAt_3b067 ∈ gWS := List.mem_filter.mpr ⟨(tk_3 _ (List.mem_of_getElem? (i := 180) rfl)), rfl⟩
theorem kw_522 : Cond.static yJ2_charAt_3b067 ∈ gWS := List.mem_filter.mpr ⟨(tk_3 _ (List.mem_of_getElem? (i := 181) rfl)), rfl⟩
theorem kw_523 : Cond.initialized RJ2 ∈ gWS := List.mem_filter.mpr ⟨(tk_1 _ (List.mem_of_getElem? (i := 17) rfl)), rfl⟩
theorem kw_524 : Cond.code yJ2_charAt_3b067 cJ2_charAt_3b067 2 (some .char) ∈ gWS := List.mem_filter.mpr ⟨(tk_3 _ (List.mem_of_getElem? (i := 182) rfl)), rfl⟩
theorem kw_525 : Cond.methodLink RJ2 67 yJ2_checkIndex_2214a ∈ gWS := List.mem_filter.mpr ⟨(tk_3 _ (List.mem_of_getElem? (i := 183) rfl)), rfl⟩
theorem kw_526 : Cond.static yJ2_checkIndex_2214a ∈ gWS := List.mem_filter.mpr ⟨(tk_3 _ (List.mem_of_getElem? (i := 184) rfl)), rfl⟩
theorem kw_527 : Cond.code yJ2_checkIndex_2214a cJ2_checkIndex_2214a 2 none ∈ gWS := List.mem_filter.mpr ⟨(tk_3 _ (List.mem_of_getElem? (i := 185) rfl)), rfl⟩
theorem kw_528 : Cond.methodLink RJ2 48 yJ2_length_9d52b ∈ gWS := List.mem_filter.mpr ⟨(tk_3 _ (List.mem_of_getElem? (i := 186) rfl)), rfl⟩
theorem kw_529 : Cond.static yJ2_length_9d52b ∈ gWS := List.mem_filter.mpr ⟨(tk_3 _ (List.mem_of_getElem? (i := 187) rfl)), rfl⟩
theorem kw_530 : Cond.code yJ2_length_9d52b cJ2_length_9d52b 1 (some .int) ∈ gWS := List.mem_filter.mpr ⟨(tk_3 _ (List.mem_of_getElem? (i := 188) rfl)), rfl⟩
theorem kw_531 : Cond.methodLink RJ2 414 yJ0_checkIndex_df160 ∈ gWS := List.mem_filter.mpr ⟨(tk_3 _ (List.mem_of_getElem? (i := 189) rfl)), rfl⟩
theorem kw_532 : Cond.methodLink RJ2 71 yJ2_getChar_3b067 ∈ gWS := List.mem_filter.mpr ⟨(tk_3 _ (List.mem_of_getElem? (i := 190) rfl)), rfl⟩
theorem kw_533 : Cond.static yJ2_getChar_3b067 ∈ gWS := List.mem_filter.mpr ⟨(tk_3 _ (List.mem_of_getElem? (i := 191) rfl)), rfl⟩
theorem kw_534 : Cond.code yJ2_getChar_3b067 cJ2_getChar_3b067 2 (some .char) ∈ gWS := List.mem_filter.mpr ⟨(tk_3 _ (List.mem_of_getElem? (i := 192) rfl)), rfl⟩
theorem kw_535 : Cond.fieldLink RJ2 44 "java/lang/StringUTF16" "$assertionsDisabled" "Z" ∈ gWS := List.mem_filter.mpr ⟨(tk_3 _ (List.mem_of_getElem? (i := 193) rfl)), rfl⟩
theorem kw_536 : Cond.fieldLink RJ2 59 "java/lang/StringUTF16" "HI_BYTE_SHIFT" "I" ∈ gWS := List.mem_filter.mpr ⟨(tk_3 _ (List.mem_of_getElem? (i := 195) rfl)), rfl⟩
theorem kw_537 : Cond.fieldLink RJ2 63 "java/lang/StringUTF16" "LO_BYTE_SHIFT" "I" ∈ gWS := List.mem_filter.mpr ⟨(tk_3 _ (List.mem_of_getElem? (i := 197) rfl)), rfl⟩
theorem kw_538 : Cond.methodLink RX6 103 yX6_readSum ∈ gWS := List.mem_filter.mpr ⟨(tk_3 _ (List.mem_of_getElem? (i := 200) rfl)), rfl⟩
theorem kw_539 : Cond.instanceMethod yX6_readSum ∈ gWS := List.mem_filter.mpr ⟨(tk_3 _ (List.mem_of_getElem? (i := 202) rfl)), rfl⟩
theorem kw_540 : Cond.selects RX6 yX6_readSum yX6_readSum ∈ gWS := List.mem_filter.mpr ⟨(List.mem_append_left _ (List.mem_of_getElem? (i := 8) rfl)), rfl⟩
theorem kw_541 : Cond.code yX6_readSum cX6_readSum 4 (some .boolean) ∈ gWS := List.mem_filter.mpr ⟨(tk_3 _ (List.mem_of_getElem? (i := 203) rfl)), rfl⟩
theorem kw_542 : Cond.methodLink RX6 136 yX6_readTerm ∈ gWS := List.mem_filter.mpr ⟨(tk_3 _ (List.mem_of_getElem? (i := 204) rfl)), rfl⟩
theorem kw_543 : Cond.instanceMethod yX6_readTerm ∈ gWS := List.mem_filter.mpr ⟨(tk_3 _ (List.mem_of_getElem? (i := 206) rfl)), rfl⟩
theorem kw_544 : Cond.selects RX6 yX6_readTerm yX6_readTerm ∈ gWS := List.mem_filter.mpr ⟨(List.mem_append_left _ (List.mem_of_getElem? (i := 9) rfl)), rfl⟩
theorem kw_545 : Cond.methodLink RX6 66 yX6_isSign ∈ gWS := List.mem_filter.mpr ⟨(tk_3 _ (List.mem_of_getElem? (i := 212) rfl)), rfl⟩
theorem kw_546 : Cond.instanceMethod yX6_isSign ∈ gWS := List.mem_filter.mpr ⟨(tk_3 _ (List.mem_of_getElem? (i := 214) rfl)), rfl⟩
theorem kw_547 : Cond.selects RX6 yX6_isSign yX6_isSign ∈ gWS := List.mem_filter.mpr ⟨(List.mem_append_left _ (List.mem_of_getElem? (i := 11) rfl)), rfl⟩
theorem kw_548 : Cond.code yX6_isSign cX6_isSign 2 (some .boolean) ∈ gWS := List.mem_filter.mpr ⟨(tk_3 _ (List.mem_of_getElem? (i := 215) rfl)), rfl⟩
theorem kw_549 : Cond.methodLink RX6 116 yX6_emit ∈ gWS := List.mem_filter.mpr ⟨(tk_3 _ (List.mem_of_getElem? (i := 237) rfl)), rfl⟩
theorem kw_550 : Cond.instanceMethod yX6_emit ∈ gWS := List.mem_filter.mpr ⟨(tk_3 _ (List.mem_of_getElem? (i := 239) rfl)), rfl⟩
theorem kw_551 : Cond.selects RX6 yX6_emit yX6_emit ∈ gWS := List.mem_filter.mpr ⟨(List.mem_append_left _ (List.mem_of_getElem? (i := 15) rfl)), rfl⟩
theorem kw_552 : Cond.code yX6_emit cX6_emit 3 (some .int) ∈ gWS := List.mem_filter.mpr ⟨(tk_4 _ (List.mem_of_getElem? (i := 0) rfl)), rfl⟩
theorem kw_553 : Cond.code yX6_readInner cX6_readInner 2 (some .boolean) ∈ gWS := List.mem_filter.mpr ⟨(tk_3 _ (List.mem_of_getElem? (i := 219) rfl)), rfl⟩
theorem kw_554 : Cond.code yX6_readPart cX6_readPart 4 (some .boolean) ∈ gWS := List.mem_filter.mpr ⟨(tk_3 _ (List.mem_of_getElem? (i := 211) rfl)), rfl⟩
theorem kw_555 : Cond.methodLink RX6 142 yX6_readInner ∈ gWS := List.mem_filter.mpr ⟨(tk_3 _ (List.mem_of_getElem? (i := 216) rfl)), rfl⟩
theorem kw_556 : Cond.instanceMethod yX6_readInner ∈ gWS := List.mem_filter.mpr ⟨(tk_3 _ (List.mem_of_getElem? (i := 218) rfl)), rfl⟩
theorem kw_557 : Cond.selects RX6 yX6_readInner yX6_readInner ∈ gWS := List.mem_filter.mpr ⟨(List.mem_append_left _ (List.mem_of_getElem? (i := 12) rfl)), rfl⟩
theorem kw_558 : Cond.methodLink RX6 145 yX6_numberHere ∈ gWS := List.mem_filter.mpr ⟨(tk_3 _ (List.mem_of_getElem? (i := 220) rfl)), rfl⟩
theorem kw_559 : Cond.instanceMethod yX6_numberHere ∈ gWS := List.mem_filter.mpr ⟨(tk_3 _ (List.mem_of_getElem? (i := 222) rfl)), rfl⟩
theorem kw_560 : Cond.selects RX6 yX6_numberHere yX6_numberHere ∈ gWS := List.mem_filter.mpr ⟨(List.mem_append_left _ (List.mem_of_getElem? (i := 13) rfl)), rfl⟩
theorem kw_561 : Cond.code yX6_numberHere cX6_numberHere 3 (some .int) ∈ gWS := List.mem_filter.mpr ⟨(tk_3 _ (List.mem_of_getElem? (i := 223) rfl)), rfl⟩
theorem kw_562 : Cond.methodLink RX6 148 yX6_wordHere ∈ gWS := List.mem_filter.mpr ⟨(tk_3 _ (List.mem_of_getElem? (i := 224) rfl)), rfl⟩
theorem kw_563 : Cond.instanceMethod yX6_wordHere ∈ gWS := List.mem_filter.mpr ⟨(tk_3 _ (List.mem_of_getElem? (i := 226) rfl)), rfl⟩
theorem kw_564 : Cond.selects RX6 yX6_wordHere yX6_wordHere ∈ gWS := List.mem_filter.mpr ⟨(List.mem_append_left _ (List.mem_of_getElem? (i := 14) rfl)), rfl⟩
theorem kw_565 : Cond.code yX6_wordHere cX6_wordHere 1 (some .int) ∈ gWS := List.mem_filter.mpr ⟨(tk_3 _ (List.mem_of_getElem? (i := 227) rfl)), rfl⟩
theorem kw_566 : Cond.code yX6_readTerm cX6_readTerm 4 (some .boolean) ∈ gWS := List.mem_filter.mpr ⟨(tk_3 _ (List.mem_of_getElem? (i := 207) rfl)), rfl⟩
theorem kw_567 : Cond.methodLink RX6 139 yX6_readPart ∈ gWS := List.mem_filter.mpr ⟨(tk_3 _ (List.mem_of_getElem? (i := 208) rfl)), rfl⟩
theorem kw_568 : Cond.instanceMethod yX6_readPart ∈ gWS := List.mem_filter.mpr ⟨(tk_3 _ (List.mem_of_getElem? (i := 210) rfl)), rfl⟩
theorem kw_569 : Cond.selects RX6 yX6_readPart yX6_readPart ∈ gWS := List.mem_filter.mpr ⟨(List.mem_append_left _ (List.mem_of_getElem? (i := 10) rfl)), rfl⟩
theorem kw_570 : Cond.methodLink RX6 108 yX6_readTest ∈ gWS := List.mem_filter.mpr ⟨(tk_4 _ (List.mem_of_getElem? (i := 2) rfl)), rfl⟩
theorem kw_571 : Cond.instanceMethod yX6_readTest ∈ gWS := List.mem_filter.mpr ⟨(tk_4 _ (List.mem_of_getElem? (i := 4) rfl)), rfl⟩
theorem kw_572 : Cond.selects RX6 yX6_readTest yX6_readTest ∈ gWS := List.mem_filter.mpr ⟨(List.mem_append_left _ (List.mem_of_getElem? (i := 16) rfl)), rfl⟩
theorem kw_573 : Cond.code yX6_readTest cX6_readTest 4 (some .boolean) ∈ gWS := List.mem_filter.mpr ⟨(tk_4 _ (List.mem_of_getElem? (i := 5) rfl)), rfl⟩
theorem kw_574 : Cond.methodLink RX6 111 yX6_readBoth ∈ gWS := List.mem_filter.mpr ⟨(tk_4 _ (List.mem_of_getElem? (i := 6) rfl)), rfl⟩
theorem kw_575 : Cond.instanceMethod yX6_readBoth ∈ gWS := List.mem_filter.mpr ⟨(tk_4 _ (List.mem_of_getElem? (i := 8) rfl)), rfl⟩
theorem kw_576 : Cond.selects RX6 yX6_readBoth yX6_readBoth ∈ gWS := List.mem_filter.mpr ⟨(List.mem_append_left _ (List.mem_of_getElem? (i := 17) rfl)), rfl⟩
theorem kw_577 : Cond.methodLink RX6 119 yX6_leadHere ∈ gWS := List.mem_filter.mpr ⟨(tk_4 _ (List.mem_of_getElem? (i := 24) rfl)), rfl⟩
theorem kw_578 : Cond.instanceMethod yX6_leadHere ∈ gWS := List.mem_filter.mpr ⟨(tk_4 _ (List.mem_of_getElem? (i := 26) rfl)), rfl⟩
theorem kw_579 : Cond.selects RX6 yX6_leadHere yX6_leadHere ∈ gWS := List.mem_filter.mpr ⟨(List.mem_append_left _ (List.mem_of_getElem? (i := 21) rfl)), rfl⟩
theorem kw_580 : Cond.code yX6_leadHere cX6_leadHere 3 none ∈ gWS := List.mem_filter.mpr ⟨(tk_4 _ (List.mem_of_getElem? (i := 27) rfl)), rfl⟩
theorem kw_581 : Cond.code yX6_readBoth cX6_readBoth 4 (some .boolean) ∈ gWS := List.mem_filter.mpr ⟨(tk_4 _ (List.mem_of_getElem? (i := 9) rfl)), rfl⟩
theorem kw_582 : Cond.methodLink RX6 123 yX6_readPlain ∈ gWS := List.mem_filter.mpr ⟨(tk_4 _ (List.mem_of_getElem? (i := 10) rfl)), rfl⟩
theorem kw_583 : Cond.instanceMethod yX6_readPlain ∈ gWS := List.mem_filter.mpr ⟨(tk_4 _ (List.mem_of_getElem? (i := 12) rfl)), rfl⟩
theorem kw_584 : Cond.selects RX6 yX6_readPlain yX6_readPlain ∈ gWS := List.mem_filter.mpr ⟨(List.mem_append_left _ (List.mem_of_getElem? (i := 18) rfl)), rfl⟩
theorem kw_585 : Cond.code yX6_readBracketed cX6_readBracketed 2 (some .boolean) ∈ gWS := List.mem_filter.mpr ⟨(tk_4 _ (List.mem_of_getElem? (i := 18) rfl)), rfl⟩
theorem kw_586 : Cond.code yX6_readPlain cX6_readPlain 4 (some .boolean) ∈ gWS := List.mem_filter.mpr ⟨(tk_4 _ (List.mem_of_getElem? (i := 13) rfl)), rfl⟩
theorem kw_587 : Cond.methodLink RX6 130 yX6_readBracketed ∈ gWS := List.mem_filter.mpr ⟨(tk_4 _ (List.mem_of_getElem? (i := 15) rfl)), rfl⟩
theorem kw_588 : Cond.instanceMethod yX6_readBracketed ∈ gWS := List.mem_filter.mpr ⟨(tk_4 _ (List.mem_of_getElem? (i := 17) rfl)), rfl⟩
theorem kw_589 : Cond.selects RX6 yX6_readBracketed yX6_readBracketed ∈ gWS := List.mem_filter.mpr ⟨(List.mem_append_left _ (List.mem_of_getElem? (i := 19) rfl)), rfl⟩
theorem kw_590 : Cond.methodLink RX6 133 yX6_readComparison ∈ gWS := List.mem_filter.mpr ⟨(tk_4 _ (List.mem_of_getElem? (i := 19) rfl)), rfl⟩
theorem kw_591 : Cond.instanceMethod yX6_readComparison ∈ gWS := List.mem_filter.mpr ⟨(tk_4 _ (List.mem_of_getElem? (i := 21) rfl)), rfl⟩
theorem kw_592 : Cond.selects RX6 yX6_readComparison yX6_readComparison ∈ gWS := List.mem_filter.mpr ⟨(List.mem_append_left _ (List.mem_of_getElem? (i := 20) rfl)), rfl⟩
theorem kw_593 : Cond.code yX6_readComparison cX6_readComparison 3 (some .boolean) ∈ gWS := List.mem_filter.mpr ⟨(tk_4 _ (List.mem_of_getElem? (i := 22) rfl)), rfl⟩
theorem kw_594 : Cond.methodLink RX6 63 yX3_init ∈ gWS := List.mem_filter.mpr ⟨(tk_4 _ (List.mem_of_getElem? (i := 31) rfl)), rfl⟩
theorem kw_595 : Cond.instanceMethod yX3_init ∈ gWS := List.mem_filter.mpr ⟨(tk_4 _ (List.mem_of_getElem? (i := 32) rfl)), rfl⟩
theorem kw_596 : Cond.code yX3_init cX3_init 8 none ∈ gWS := List.mem_filter.mpr ⟨(tk_4 _ (List.mem_of_getElem? (i := 33) rfl)), rfl⟩
theorem kw_597 : Cond.methodLink RX3 1 objectInit ∈ gWS := List.mem_filter.mpr ⟨(tk_4 _ (List.mem_of_getElem? (i := 34) rfl)), rfl⟩
theorem kw_598 : Cond.methodLink RX3 7 Lib.Math.min.name ∈ gWS := List.mem_filter.mpr ⟨(tk_4 _ (List.mem_of_getElem? (i := 35) rfl)), rfl⟩
theorem kw_599 : Cond.methodLink RX3 13 Lib.Math.max.name ∈ gWS := List.mem_filter.mpr ⟨(tk_4 _ (List.mem_of_getElem? (i := 36) rfl)), rfl⟩
theorem kw_600 : Cond.fieldLink RX3 22 "CornerTown$Law" "steps" "[I" ∈ gWS := List.mem_filter.mpr ⟨(tk_4 _ (List.mem_of_getElem? (i := 51) rfl)), rfl⟩
theorem kw_601 : Cond.fieldLink RX3 28 "CornerTown$Law" "ends" "[I" ∈ gWS := List.mem_filter.mpr ⟨(tk_4 _ (List.mem_of_getElem? (i := 52) rfl)), rfl⟩
theorem kw_602 : Cond.fieldLink RX3 31 "CornerTown$Law" "kinds" "[I" ∈ gWS := List.mem_filter.mpr ⟨(tk_4 _ (List.mem_of_getElem? (i := 53) rfl)), rfl⟩
theorem kw_603 : Cond.fieldLink RX3 34 "CornerTown$Law" "clauses" "I" ∈ gWS := List.mem_filter.mpr ⟨(tk_4 _ (List.mem_of_getElem? (i := 54) rfl)), rfl⟩
theorem kw_604 : Cond.fieldLink RX3 38 "CornerTown$Law" "namesDay" "Z" ∈ gWS := List.mem_filter.mpr ⟨(tk_4 _ (List.mem_of_getElem? (i := 56) rfl)), rfl⟩
theorem kw_605 : Cond.methodLink RX3 16 yJ7_copyOf_59c91 ∈ gWS := List.mem_filter.mpr ⟨(tk_4 _ (List.mem_of_getElem? (i := 37) rfl)), rfl⟩
theorem kw_606 : Cond.static yJ7_copyOf_59c91 ∈ gWS := List.mem_filter.mpr ⟨(tk_4 _ (List.mem_of_getElem? (i := 38) rfl)), rfl⟩
theorem kw_607 : Cond.initialized RJ7 ∈ gWS := List.mem_filter.mpr ⟨(tk_1 _ (List.mem_of_getElem? (i := 19) rfl)), rfl⟩
theorem kw_608 : Cond.code yJ7_copyOf_59c91 cJ7_copyOf_59c91 3 (some (.array .int)) ∈ gWS := List.mem_filter.mpr ⟨(tk_4 _ (List.mem_of_getElem? (i := 39) rfl)), rfl⟩
theorem kw_609 : Cond.methodLink RJ7 316 ⟨"[I", "clone", "()Ljava/lang/Object;"⟩ ∈ gWS := List.mem_filter.mpr ⟨(tk_4 _ (List.mem_of_getElem? (i := 40) rfl)), rfl⟩
theorem kw_610 : Cond.sameMethod "[I" "java/lang/Object" "clone" "()Ljava/lang/Object;" ∈ gWS := List.mem_filter.mpr ⟨(tk_4 _ (List.mem_of_getElem? (i := 41) rfl)), rfl⟩
theorem kw_611 : Cond.native ⟨"java/lang/Object", "clone", "()Ljava/lang/Object;"⟩ ∈ gWS := List.mem_filter.mpr ⟨(tk_4 _ (List.mem_of_getElem? (i := 42) rfl)), rfl⟩
theorem kw_612 : Cond.instanceMethod ⟨"java/lang/Object", "clone", "()Ljava/lang/Object;"⟩ ∈ gWS := List.mem_filter.mpr ⟨(tk_4 _ (List.mem_of_getElem? (i := 43) rfl)), rfl⟩
theorem kw_613 : Cond.selects "[I" ⟨"[I", "clone", "()Ljava/lang/Object;"⟩ ⟨"java/lang/Object", "clone", "()Ljava/lang/Object;"⟩ ∈ gWS := List.mem_filter.mpr ⟨(tk_4 _ (List.mem_of_getElem? (i := 44) rfl)), rfl⟩
theorem kw_614 : Cond.classLink RJ7 317 "[I" ∈ gWS := List.mem_filter.mpr ⟨(tk_4 _ (List.mem_of_getElem? (i := 46) rfl)), rfl⟩
theorem kw_615 : Cond.methodLink RJ7 304 Lib.Math.min.name ∈ gWS := List.mem_filter.mpr ⟨(tk_4 _ (List.mem_of_getElem? (i := 47) rfl)), rfl⟩
theorem kw_616 : Cond.methodLink RJ7 150 arraycopyName ∈ gWS := List.mem_filter.mpr ⟨(tk_4 _ (List.mem_of_getElem? (i := 48) rfl)), rfl⟩
theorem kw_617 : Cond.native arraycopyName ∈ gWS := List.mem_filter.mpr ⟨(tk_4 _ (List.mem_of_getElem? (i := 50) rfl)), rfl⟩
theorem kw_618 : Cond.static arraycopyName ∈ gWS := List.mem_filter.mpr ⟨(tk_4 _ (List.mem_of_getElem? (i := 49) rfl)), rfl⟩
theorem kw_619 : Cond.initialized "java/lang/System" ∈ gWS := List.mem_filter.mpr ⟨(tk_1 _ (List.mem_of_getElem? (i := 20) rfl)), rfl⟩
theorem kw_620 : Cond.methodLink RX11 180 yX6_faultPlace ∈ gWS := List.mem_filter.mpr ⟨(tk_4 _ (List.mem_of_getElem? (i := 70) rfl)), rfl⟩
theorem kw_621 : Cond.instanceMethod yX6_faultPlace ∈ gWS := List.mem_filter.mpr ⟨(tk_4 _ (List.mem_of_getElem? (i := 71) rfl)), rfl⟩
theorem kw_622 : Cond.selects RX6 yX6_faultPlace yX6_faultPlace ∈ gWS := List.mem_filter.mpr ⟨(tk_4 _ (List.mem_of_getElem? (i := 72) rfl)), rfl⟩
theorem kw_623 : Cond.code yX6_faultPlace cX6_faultPlace 1 (some .int) ∈ gWS := List.mem_filter.mpr ⟨(tk_4 _ (List.mem_of_getElem? (i := 73) rfl)), rfl⟩
theorem kw_624 : Cond.methodLink RL 68 yX12_law ∈ gWS := List.mem_filter.mpr ⟨(tk_7 _ (List.mem_of_getElem? (i := 102) rfl)), rfl⟩
theorem kw_625 : Cond.instanceMethod yX12_law ∈ gWS := List.mem_filter.mpr ⟨(tk_7 _ (List.mem_of_getElem? (i := 103) rfl)), rfl⟩
theorem kw_626 : Cond.selects RX12 yX12_law yX12_law ∈ gWS := List.mem_filter.mpr ⟨(tk_7 _ (List.mem_of_getElem? (i := 104) rfl)), rfl⟩
theorem kw_627 : Cond.code yX12_law cX12_law 3 (some .int) ∈ gWS := List.mem_filter.mpr ⟨(tk_7 _ (List.mem_of_getElem? (i := 105) rfl)), rfl⟩
theorem kw_628 : Cond.fieldLink RX12 170 "CornerTownModel" "tokens" "I" ∈ gWS := List.mem_filter.mpr ⟨(tk_6 _ (List.mem_of_getElem? (i := 95) rfl)), rfl⟩
theorem kw_629 : Cond.methodLink RX12 237 yX12_reads ∈ gWS := List.mem_filter.mpr ⟨(tk_7 _ (List.mem_of_getElem? (i := 106) rfl)), rfl⟩
theorem kw_630 : Cond.instanceMethod yX12_reads ∈ gWS := List.mem_filter.mpr ⟨(tk_7 _ (List.mem_of_getElem? (i := 108) rfl)), rfl⟩
theorem kw_631 : Cond.selects RX12 yX12_reads yX12_reads ∈ gWS := List.mem_filter.mpr ⟨(List.mem_append_left _ (List.mem_of_getElem? (i := 63) rfl)), rfl⟩
theorem kw_632 : Cond.code yX12_reads cX12_reads 2 (some .boolean) ∈ gWS := List.mem_filter.mpr ⟨(tk_7 _ (List.mem_of_getElem? (i := 109) rfl)), rfl⟩
theorem kw_633 : Cond.fieldLink RX12 190 "CornerTownModel" "token" "I" ∈ gWS := List.mem_filter.mpr ⟨(tk_6 _ (List.mem_of_getElem? (i := 96) rfl)), rfl⟩
theorem kw_634 : Cond.fieldLink RX12 199 "CornerTownModel" "leaves" "I" ∈ gWS := List.mem_filter.mpr ⟨(tk_6 _ (List.mem_of_getElem? (i := 97) rfl)), rfl⟩
theorem kw_635 : Cond.fieldLink RX12 183 "CornerTownModel" "bad" "I" ∈ gWS := List.mem_filter.mpr ⟨(tk_6 _ (List.mem_of_getElem? (i := 98) rfl)), rfl⟩
theorem kw_636 : Cond.methodLink RX12 231 yX12_splits ∈ gWS := List.mem_filter.mpr ⟨(tk_7 _ (List.mem_of_getElem? (i := 110) rfl)), rfl⟩
theorem kw_637 : Cond.instanceMethod yX12_splits ∈ gWS := List.mem_filter.mpr ⟨(tk_7 _ (List.mem_of_getElem? (i := 112) rfl)), rfl⟩
theorem kw_638 : Cond.selects RX12 yX12_splits yX12_splits ∈ gWS := List.mem_filter.mpr ⟨(List.mem_append_left _ (List.mem_of_getElem? (i := 64) rfl)), rfl⟩
theorem kw_639 : Cond.code yX12_splits cX12_splits 6 none ∈ gWS := List.mem_filter.mpr ⟨(tk_7 _ (List.mem_of_getElem? (i := 113) rfl)), rfl⟩
theorem kw_640 : Cond.constant RX12 182 (1000000) ∈ gWS := List.mem_filter.mpr ⟨(tk_7 _ (List.mem_of_getElem? (i := 124) rfl)), rfl⟩
theorem kw_641 : Cond.methodLink RX12 173 yX12_isSmall ∈ gWS := List.mem_filter.mpr ⟨(tk_7 _ (List.mem_of_getElem? (i := 114) rfl)), rfl⟩
theorem kw_642 : Cond.static yX12_isSmall ∈ gWS := List.mem_filter.mpr ⟨(tk_7 _ (List.mem_of_getElem? (i := 115) rfl)), rfl⟩
theorem kw_643 : Cond.code yX12_isSmall cX12_isSmall 1 (some .boolean) ∈ gWS := List.mem_filter.mpr ⟨(tk_7 _ (List.mem_of_getElem? (i := 116) rfl)), rfl⟩
theorem kw_644 : Cond.methodLink RX12 176 yX12_isDigit ∈ gWS := List.mem_filter.mpr ⟨(tk_7 _ (List.mem_of_getElem? (i := 117) rfl)), rfl⟩
theorem kw_645 : Cond.static yX12_isDigit ∈ gWS := List.mem_filter.mpr ⟨(tk_7 _ (List.mem_of_getElem? (i := 118) rfl)), rfl⟩
theorem kw_646 : Cond.code yX12_isDigit cX12_isDigit 1 (some .boolean) ∈ gWS := List.mem_filter.mpr ⟨(tk_7 _ (List.mem_of_getElem? (i := 119) rfl)), rfl⟩
theorem kw_647 : Cond.methodLink RX12 179 yX12_wordOf ∈ gWS := List.mem_filter.mpr ⟨(tk_7 _ (List.mem_of_getElem? (i := 120) rfl)), rfl⟩
theorem kw_648 : Cond.instanceMethod yX12_wordOf ∈ gWS := List.mem_filter.mpr ⟨(tk_7 _ (List.mem_of_getElem? (i := 122) rfl)), rfl⟩
theorem kw_649 : Cond.selects RX12 yX12_wordOf yX12_wordOf ∈ gWS := List.mem_filter.mpr ⟨(List.mem_append_left _ (List.mem_of_getElem? (i := 65) rfl)), rfl⟩
theorem kw_650 : Cond.code yX12_wordOf cX12_wordOf 8 (some .int) ∈ gWS := List.mem_filter.mpr ⟨(tk_7 _ (List.mem_of_getElem? (i := 123) rfl)), rfl⟩
theorem kw_651 : Cond.methodLink RX12 234 yX12_readClause ∈ gWS := List.mem_filter.mpr ⟨(tk_7 _ (List.mem_of_getElem? (i := 125) rfl)), rfl⟩
theorem kw_652 : Cond.instanceMethod yX12_readClause ∈ gWS := List.mem_filter.mpr ⟨(tk_7 _ (List.mem_of_getElem? (i := 127) rfl)), rfl⟩
theorem kw_653 : Cond.selects RX12 yX12_readClause yX12_readClause ∈ gWS := List.mem_filter.mpr ⟨(List.mem_append_left _ (List.mem_of_getElem? (i := 66) rfl)), rfl⟩
theorem kw_654 : Cond.code yX12_readClause cX12_readClause 1 none ∈ gWS := List.mem_filter.mpr ⟨(tk_7 _ (List.mem_of_getElem? (i := 128) rfl)), rfl⟩
theorem kw_655 : Cond.methodLink RX12 193 yX12_takes0 ∈ gWS := List.mem_filter.mpr ⟨(tk_7 _ (List.mem_of_getElem? (i := 129) rfl)), rfl⟩
theorem kw_656 : Cond.instanceMethod yX12_takes0 ∈ gWS := List.mem_filter.mpr ⟨(tk_7 _ (List.mem_of_getElem? (i := 131) rfl)), rfl⟩
theorem kw_657 : Cond.selects RX12 yX12_takes0 yX12_takes0 ∈ gWS := List.mem_filter.mpr ⟨(List.mem_append_left _ (List.mem_of_getElem? (i := 67) rfl)), rfl⟩
theorem kw_658 : Cond.code yX12_takes0 cX12_takes0 3 (some .boolean) ∈ gWS := List.mem_filter.mpr ⟨(tk_7 _ (List.mem_of_getElem? (i := 132) rfl)), rfl⟩
theorem kw_659 : Cond.methodLink RX12 186 yX12_fine ∈ gWS := List.mem_filter.mpr ⟨(tk_7 _ (List.mem_of_getElem? (i := 133) rfl)), rfl⟩
theorem kw_660 : Cond.instanceMethod yX12_fine ∈ gWS := List.mem_filter.mpr ⟨(tk_7 _ (List.mem_of_getElem? (i := 135) rfl)), rfl⟩
theorem kw_661 : Cond.selects RX12 yX12_fine yX12_fine ∈ gWS := List.mem_filter.mpr ⟨(List.mem_append_left _ (List.mem_of_getElem? (i := 68) rfl)), rfl⟩
theorem kw_662 : Cond.code yX12_fine cX12_fine 1 (some .boolean) ∈ gWS := List.mem_filter.mpr ⟨(tk_7 _ (List.mem_of_getElem? (i := 136) rfl)), rfl⟩
theorem kw_663 : Cond.methodLink RX12 202 yX12_readSum ∈ gWS := List.mem_filter.mpr ⟨(tk_7 _ (List.mem_of_getElem? (i := 137) rfl)), rfl⟩
theorem kw_664 : Cond.instanceMethod yX12_readSum ∈ gWS := List.mem_filter.mpr ⟨(tk_7 _ (List.mem_of_getElem? (i := 139) rfl)), rfl⟩
theorem kw_665 : Cond.selects RX12 yX12_readSum yX12_readSum ∈ gWS := List.mem_filter.mpr ⟨(List.mem_append_left _ (List.mem_of_getElem? (i := 69) rfl)), rfl⟩
theorem kw_666 : Cond.code yX12_readSum cX12_readSum 2 none ∈ gWS := List.mem_filter.mpr ⟨(tk_7 _ (List.mem_of_getElem? (i := 140) rfl)), rfl⟩
theorem kw_667 : Cond.methodLink RX12 222 yX12_readTerm ∈ gWS := List.mem_filter.mpr ⟨(tk_7 _ (List.mem_of_getElem? (i := 141) rfl)), rfl⟩
theorem kw_668 : Cond.instanceMethod yX12_readTerm ∈ gWS := List.mem_filter.mpr ⟨(tk_7 _ (List.mem_of_getElem? (i := 143) rfl)), rfl⟩
theorem kw_669 : Cond.selects RX12 yX12_readTerm yX12_readTerm ∈ gWS := List.mem_filter.mpr ⟨(List.mem_append_left _ (List.mem_of_getElem? (i := 70) rfl)), rfl⟩
theorem kw_670 : Cond.methodLink RX12 218 yX12_sign ∈ gWS := List.mem_filter.mpr ⟨(tk_7 _ (List.mem_of_getElem? (i := 149) rfl)), rfl⟩
theorem kw_671 : Cond.static yX12_sign ∈ gWS := List.mem_filter.mpr ⟨(tk_7 _ (List.mem_of_getElem? (i := 150) rfl)), rfl⟩
theorem kw_672 : Cond.code yX12_sign cX12_sign 1 (some .int) ∈ gWS := List.mem_filter.mpr ⟨(tk_7 _ (List.mem_of_getElem? (i := 151) rfl)), rfl⟩
theorem kw_673 : Cond.code yX12_readPart cX12_readPart 3 none ∈ gWS := List.mem_filter.mpr ⟨(tk_7 _ (List.mem_of_getElem? (i := 148) rfl)), rfl⟩
theorem kw_674 : Cond.methodLink RX12 196 yX12_faults ∈ gWS := List.mem_filter.mpr ⟨(tk_7 _ (List.mem_of_getElem? (i := 152) rfl)), rfl⟩
theorem kw_675 : Cond.instanceMethod yX12_faults ∈ gWS := List.mem_filter.mpr ⟨(tk_7 _ (List.mem_of_getElem? (i := 154) rfl)), rfl⟩
theorem kw_676 : Cond.selects RX12 yX12_faults yX12_faults ∈ gWS := List.mem_filter.mpr ⟨(List.mem_append_left _ (List.mem_of_getElem? (i := 72) rfl)), rfl⟩
theorem kw_677 : Cond.code yX12_faults cX12_faults 1 none ∈ gWS := List.mem_filter.mpr ⟨(tk_7 _ (List.mem_of_getElem? (i := 155) rfl)), rfl⟩
theorem kw_678 : Cond.methodLink RX12 206 yX12_must ∈ gWS := List.mem_filter.mpr ⟨(tk_7 _ (List.mem_of_getElem? (i := 156) rfl)), rfl⟩
theorem kw_679 : Cond.instanceMethod yX12_must ∈ gWS := List.mem_filter.mpr ⟨(tk_7 _ (List.mem_of_getElem? (i := 158) rfl)), rfl⟩
theorem kw_680 : Cond.selects RX12 yX12_must yX12_must ∈ gWS := List.mem_filter.mpr ⟨(List.mem_append_left _ (List.mem_of_getElem? (i := 73) rfl)), rfl⟩
theorem kw_681 : Cond.code yX12_must cX12_must 2 none ∈ gWS := List.mem_filter.mpr ⟨(tk_7 _ (List.mem_of_getElem? (i := 159) rfl)), rfl⟩
theorem kw_682 : Cond.methodLink RX12 228 yX12_leaf ∈ gWS := List.mem_filter.mpr ⟨(tk_7 _ (List.mem_of_getElem? (i := 160) rfl)), rfl⟩
theorem kw_683 : Cond.instanceMethod yX12_leaf ∈ gWS := List.mem_filter.mpr ⟨(tk_7 _ (List.mem_of_getElem? (i := 162) rfl)), rfl⟩
theorem kw_684 : Cond.selects RX12 yX12_leaf yX12_leaf ∈ gWS := List.mem_filter.mpr ⟨(List.mem_append_left _ (List.mem_of_getElem? (i := 74) rfl)), rfl⟩
theorem kw_685 : Cond.code yX12_leaf cX12_leaf 1 none ∈ gWS := List.mem_filter.mpr ⟨(tk_7 _ (List.mem_of_getElem? (i := 163) rfl)), rfl⟩
theorem kw_686 : Cond.code yX12_readTerm cX12_readTerm 2 none ∈ gWS := List.mem_filter.mpr ⟨(tk_7 _ (List.mem_of_getElem? (i := 144) rfl)), rfl⟩
theorem kw_687 : Cond.methodLink RX12 225 yX12_readPart ∈ gWS := List.mem_filter.mpr ⟨(tk_7 _ (List.mem_of_getElem? (i := 145) rfl)), rfl⟩
theorem kw_688 : Cond.instanceMethod yX12_readPart ∈ gWS := List.mem_filter.mpr ⟨(tk_7 _ (List.mem_of_getElem? (i := 147) rfl)), rfl⟩
theorem kw_689 : Cond.selects RX12 yX12_readPart yX12_readPart ∈ gWS := List.mem_filter.mpr ⟨(List.mem_append_left _ (List.mem_of_getElem? (i := 71) rfl)), rfl⟩
theorem kw_690 : Cond.methodLink RX12 209 yX12_readTest ∈ gWS := List.mem_filter.mpr ⟨(tk_7 _ (List.mem_of_getElem? (i := 164) rfl)), rfl⟩
theorem kw_691 : Cond.instanceMethod yX12_readTest ∈ gWS := List.mem_filter.mpr ⟨(tk_7 _ (List.mem_of_getElem? (i := 166) rfl)), rfl⟩
theorem kw_692 : Cond.selects RX12 yX12_readTest yX12_readTest ∈ gWS := List.mem_filter.mpr ⟨(List.mem_append_left _ (List.mem_of_getElem? (i := 75) rfl)), rfl⟩
theorem kw_693 : Cond.code yX12_readTest cX12_readTest 2 none ∈ gWS := List.mem_filter.mpr ⟨(tk_7 _ (List.mem_of_getElem? (i := 167) rfl)), rfl⟩
theorem kw_694 : Cond.methodLink RX12 212 yX12_readBoth ∈ gWS := List.mem_filter.mpr ⟨(tk_7 _ (List.mem_of_getElem? (i := 168) rfl)), rfl⟩
theorem kw_695 : Cond.instanceMethod yX12_readBoth ∈ gWS := List.mem_filter.mpr ⟨(tk_7 _ (List.mem_of_getElem? (i := 170) rfl)), rfl⟩
theorem kw_696 : Cond.selects RX12 yX12_readBoth yX12_readBoth ∈ gWS := List.mem_filter.mpr ⟨(List.mem_append_left _ (List.mem_of_getElem? (i := 76) rfl)), rfl⟩
theorem kw_697 : Cond.code yX12_readBoth cX12_readBoth 2 none ∈ gWS := List.mem_filter.mpr ⟨(tk_7 _ (List.mem_of_getElem? (i := 171) rfl)), rfl⟩
theorem kw_698 : Cond.methodLink RX12 215 yX12_readPlain ∈ gWS := List.mem_filter.mpr ⟨(tk_7 _ (List.mem_of_getElem? (i := 172) rfl)), rfl⟩
theorem kw_699 : Cond.instanceMethod yX12_readPlain ∈ gWS := List.mem_filter.mpr ⟨(tk_7 _ (List.mem_of_getElem? (i := 174) rfl)), rfl⟩
theorem kw_700 : Cond.selects RX12 yX12_readPlain yX12_readPlain ∈ gWS := List.mem_filter.mpr ⟨(List.mem_append_left _ (List.mem_of_getElem? (i := 77) rfl)), rfl⟩
theorem kw_701 : Cond.code yX12_readPlain cX12_readPlain 4 none ∈ gWS := List.mem_filter.mpr ⟨(tk_7 _ (List.mem_of_getElem? (i := 175) rfl)), rfl⟩
theorem kw_702 : Cond.methodLink RL 69 yX11_fault ∈ gWS := List.mem_filter.mpr ⟨(tk_4 _ (List.mem_of_getElem? (i := 74) rfl)), rfl⟩
theorem kw_703 : Cond.instanceMethod yX11_fault ∈ gWS := List.mem_filter.mpr ⟨(tk_4 _ (List.mem_of_getElem? (i := 75) rfl)), rfl⟩
theorem kw_704 : Cond.selects RX11 yX11_fault yX11_fault ∈ gWS := List.mem_filter.mpr ⟨(tk_4 _ (List.mem_of_getElem? (i := 76) rfl)), rfl⟩
theorem kw_705 : Cond.code yX11_fault cX11_fault 1 (some .int) ∈ gWS := List.mem_filter.mpr ⟨(tk_4 _ (List.mem_of_getElem? (i := 77) rfl)), rfl⟩
theorem kw_706 : Cond.methodLink RL 72 yX12_fault ∈ gWS := List.mem_filter.mpr ⟨(tk_7 _ (List.mem_of_getElem? (i := 176) rfl)), rfl⟩
theorem kw_707 : Cond.instanceMethod yX12_fault ∈ gWS := List.mem_filter.mpr ⟨(tk_7 _ (List.mem_of_getElem? (i := 177) rfl)), rfl⟩
theorem kw_708 : Cond.selects RX12 yX12_fault yX12_fault ∈ gWS := List.mem_filter.mpr ⟨(tk_7 _ (List.mem_of_getElem? (i := 178) rfl)), rfl⟩
theorem kw_709 : Cond.code yX12_fault cX12_fault 1 (some .int) ∈ gWS := List.mem_filter.mpr ⟨(tk_7 _ (List.mem_of_getElem? (i := 179) rfl)), rfl⟩
theorem kw_710 : Cond.methodLink RL 73 yX11_force ∈ gWS := List.mem_filter.mpr ⟨(tk_4 _ (List.mem_of_getElem? (i := 78) rfl)), rfl⟩
theorem kw_711 : Cond.instanceMethod yX11_force ∈ gWS := List.mem_filter.mpr ⟨(tk_4 _ (List.mem_of_getElem? (i := 79) rfl)), rfl⟩
theorem kw_712 : Cond.selects RX11 yX11_force yX11_force ∈ gWS := List.mem_filter.mpr ⟨(tk_4 _ (List.mem_of_getElem? (i := 80) rfl)), rfl⟩
theorem kw_713 : Cond.code yX11_force cX11_force 3 (some .int) ∈ gWS := List.mem_filter.mpr ⟨(tk_4 _ (List.mem_of_getElem? (i := 81) rfl)), rfl⟩
theorem kw_714 : Cond.fieldLink RX11 188 "CornerTown$Town" "inForce" "I" ∈ gWS := List.mem_filter.mpr ⟨(tk_1 _ (List.mem_of_getElem? (i := 106) rfl)), rfl⟩
theorem kw_715 : Cond.methodLink RL 76 yX12_force ∈ gWS := List.mem_filter.mpr ⟨(tk_7 _ (List.mem_of_getElem? (i := 180) rfl)), rfl⟩
theorem kw_716 : Cond.instanceMethod yX12_force ∈ gWS := List.mem_filter.mpr ⟨(tk_7 _ (List.mem_of_getElem? (i := 181) rfl)), rfl⟩
theorem kw_717 : Cond.selects RX12 yX12_force yX12_force ∈ gWS := List.mem_filter.mpr ⟨(tk_7 _ (List.mem_of_getElem? (i := 182) rfl)), rfl⟩
theorem kw_718 : Cond.code yX12_force cX12_force 3 (some .int) ∈ gWS := List.mem_filter.mpr ⟨(tk_7 _ (List.mem_of_getElem? (i := 183) rfl)), rfl⟩
theorem kw_719 : Cond.methodLink RL 77 yX11_touch ∈ gWS := List.mem_filter.mpr ⟨(tk_4 _ (List.mem_of_getElem? (i := 82) rfl)), rfl⟩
theorem kw_720 : Cond.instanceMethod yX11_touch ∈ gWS := List.mem_filter.mpr ⟨(tk_4 _ (List.mem_of_getElem? (i := 83) rfl)), rfl⟩
theorem kw_721 : Cond.selects RX11 yX11_touch yX11_touch ∈ gWS := List.mem_filter.mpr ⟨(tk_4 _ (List.mem_of_getElem? (i := 84) rfl)), rfl⟩
theorem kw_722 : Cond.code yX11_touch cX11_touch 3 (some .int) ∈ gWS := List.mem_filter.mpr ⟨(tk_4 _ (List.mem_of_getElem? (i := 85) rfl)), rfl⟩
theorem kw_723 : Cond.methodLink RX11 191 yX10_hasTwo ∈ gWS := List.mem_filter.mpr ⟨(tk_4 _ (List.mem_of_getElem? (i := 86) rfl)), rfl⟩
theorem kw_724 : Cond.methodLink RX11 195 yX10_touching ∈ gWS := List.mem_filter.mpr ⟨(tk_4 _ (List.mem_of_getElem? (i := 87) rfl)), rfl⟩
theorem kw_725 : Cond.instanceMethod yX10_touching ∈ gWS := List.mem_filter.mpr ⟨(tk_4 _ (List.mem_of_getElem? (i := 88) rfl)), rfl⟩
theorem kw_726 : Cond.selects RX10 yX10_touching yX10_touching ∈ gWS := List.mem_filter.mpr ⟨(tk_4 _ (List.mem_of_getElem? (i := 89) rfl)), rfl⟩
theorem kw_727 : Cond.code yX10_touching cX10_touching 3 (some .int) ∈ gWS := List.mem_filter.mpr ⟨(tk_4 _ (List.mem_of_getElem? (i := 90) rfl)), rfl⟩
theorem kw_728 : Cond.methodLink RL 80 yX12_touch ∈ gWS := List.mem_filter.mpr ⟨(tk_7 _ (List.mem_of_getElem? (i := 184) rfl)), rfl⟩
theorem kw_729 : Cond.instanceMethod yX12_touch ∈ gWS := List.mem_filter.mpr ⟨(tk_7 _ (List.mem_of_getElem? (i := 185) rfl)), rfl⟩
theorem kw_730 : Cond.selects RX12 yX12_touch yX12_touch ∈ gWS := List.mem_filter.mpr ⟨(tk_7 _ (List.mem_of_getElem? (i := 186) rfl)), rfl⟩
theorem kw_731 : Cond.code yX12_touch cX12_touch 3 (some .int) ∈ gWS := List.mem_filter.mpr ⟨(tk_7 _ (List.mem_of_getElem? (i := 187) rfl)), rfl⟩
theorem kw_732 : Cond.methodLink RX12 304 yX12_touching ∈ gWS := List.mem_filter.mpr ⟨(tk_7 _ (List.mem_of_getElem? (i := 188) rfl)), rfl⟩
theorem kw_733 : Cond.instanceMethod yX12_touching ∈ gWS := List.mem_filter.mpr ⟨(tk_7 _ (List.mem_of_getElem? (i := 190) rfl)), rfl⟩
theorem kw_734 : Cond.selects RX12 yX12_touching yX12_touching ∈ gWS := List.mem_filter.mpr ⟨(List.mem_append_left _ (List.mem_of_getElem? (i := 78) rfl)), rfl⟩
theorem kw_735 : Cond.code yX12_touching cX12_touching 3 (some .int) ∈ gWS := List.mem_filter.mpr ⟨(tk_7 _ (List.mem_of_getElem? (i := 191) rfl)), rfl⟩
theorem kw_736 : Cond.methodLink RX12 301 yX12_touchOf ∈ gWS := List.mem_filter.mpr ⟨(tk_7 _ (List.mem_of_getElem? (i := 192) rfl)), rfl⟩
theorem kw_737 : Cond.instanceMethod yX12_touchOf ∈ gWS := List.mem_filter.mpr ⟨(tk_7 _ (List.mem_of_getElem? (i := 194) rfl)), rfl⟩
theorem kw_738 : Cond.selects RX12 yX12_touchOf yX12_touchOf ∈ gWS := List.mem_filter.mpr ⟨(List.mem_append_left _ (List.mem_of_getElem? (i := 79) rfl)), rfl⟩
theorem kw_739 : Cond.code yX12_touchOf cX12_touchOf 10 (some .int) ∈ gWS := List.mem_filter.mpr ⟨(tk_7 _ (List.mem_of_getElem? (i := 195) rfl)), rfl⟩
theorem kw_740 : Cond.methodLink RX12 295 yX12_meet0 ∈ gWS := List.mem_filter.mpr ⟨(tk_7 _ (List.mem_of_getElem? (i := 196) rfl)), rfl⟩
theorem kw_741 : Cond.static yX12_meet0 ∈ gWS := List.mem_filter.mpr ⟨(tk_7 _ (List.mem_of_getElem? (i := 197) rfl)), rfl⟩
theorem kw_742 : Cond.code yX12_meet0 cX12_meet0 4 (some .boolean) ∈ gWS := List.mem_filter.mpr ⟨(tk_7 _ (List.mem_of_getElem? (i := 198) rfl)), rfl⟩
theorem kw_743 : Cond.methodLink RX12 298 yX12_overlap ∈ gWS := List.mem_filter.mpr ⟨(tk_7 _ (List.mem_of_getElem? (i := 199) rfl)), rfl⟩
theorem kw_744 : Cond.static yX12_overlap ∈ gWS := List.mem_filter.mpr ⟨(tk_7 _ (List.mem_of_getElem? (i := 200) rfl)), rfl⟩
theorem kw_745 : Cond.code yX12_overlap cX12_overlap 4 (some .boolean) ∈ gWS := List.mem_filter.mpr ⟨(tk_7 _ (List.mem_of_getElem? (i := 201) rfl)), rfl⟩
theorem kw_746 : Cond.methodLink RL 81 yX11_visit ∈ gWS := List.mem_filter.mpr ⟨(tk_4 _ (List.mem_of_getElem? (i := 91) rfl)), rfl⟩
theorem kw_747 : Cond.instanceMethod yX11_visit ∈ gWS := List.mem_filter.mpr ⟨(tk_4 _ (List.mem_of_getElem? (i := 92) rfl)), rfl⟩
theorem kw_748 : Cond.selects RX11 yX11_visit yX11_visit ∈ gWS := List.mem_filter.mpr ⟨(tk_4 _ (List.mem_of_getElem? (i := 93) rfl)), rfl⟩
theorem kw_749 : Cond.code yX11_visit cX11_visit 4 (some .int) ∈ gWS := List.mem_filter.mpr ⟨(tk_4 _ (List.mem_of_getElem? (i := 94) rfl)), rfl⟩
theorem kw_750 : Cond.methodLink RX11 198 yX9_isOpen ∈ gWS := List.mem_filter.mpr ⟨(tk_4 _ (List.mem_of_getElem? (i := 95) rfl)), rfl⟩
theorem kw_751 : Cond.instanceMethod yX9_isOpen ∈ gWS := List.mem_filter.mpr ⟨(tk_4 _ (List.mem_of_getElem? (i := 96) rfl)), rfl⟩
theorem kw_752 : Cond.selects RX9 yX9_isOpen yX9_isOpen ∈ gWS := List.mem_filter.mpr ⟨(tk_4 _ (List.mem_of_getElem? (i := 97) rfl)), rfl⟩
theorem kw_753 : Cond.code yX9_isOpen cX9_isOpen 5 (some .boolean) ∈ gWS := List.mem_filter.mpr ⟨(tk_4 _ (List.mem_of_getElem? (i := 98) rfl)), rfl⟩
theorem kw_754 : Cond.fieldLink RX9 63 "CornerTown$Town" "doorRows" "[I" ∈ gWS := List.mem_filter.mpr ⟨(tk_1 _ (List.mem_of_getElem? (i := 95) rfl)), rfl⟩
theorem kw_755 : Cond.methodLink RX9 81 yX10_hasTwo ∈ gWS := List.mem_filter.mpr ⟨(tk_4 _ (List.mem_of_getElem? (i := 99) rfl)), rfl⟩
theorem kw_756 : Cond.methodLink RX9 85 yX10_bothStand ∈ gWS := List.mem_filter.mpr ⟨(tk_4 _ (List.mem_of_getElem? (i := 100) rfl)), rfl⟩
theorem kw_757 : Cond.instanceMethod yX10_bothStand ∈ gWS := List.mem_filter.mpr ⟨(tk_4 _ (List.mem_of_getElem? (i := 101) rfl)), rfl⟩
theorem kw_758 : Cond.selects RX10 yX10_bothStand yX10_bothStand ∈ gWS := List.mem_filter.mpr ⟨(tk_4 _ (List.mem_of_getElem? (i := 102) rfl)), rfl⟩
theorem kw_759 : Cond.code yX10_bothStand cX10_bothStand 3 (some .boolean) ∈ gWS := List.mem_filter.mpr ⟨(tk_4 _ (List.mem_of_getElem? (i := 103) rfl)), rfl⟩
theorem kw_760 : Cond.methodLink RX9 88 yX10_touching ∈ gWS := List.mem_filter.mpr ⟨(tk_4 _ (List.mem_of_getElem? (i := 106) rfl)), rfl⟩
theorem kw_761 : Cond.methodLink RX9 73 yX9_lawBars ∈ gWS := List.mem_filter.mpr ⟨(tk_4 _ (List.mem_of_getElem? (i := 107) rfl)), rfl⟩
theorem kw_762 : Cond.instanceMethod yX9_lawBars ∈ gWS := List.mem_filter.mpr ⟨(tk_4 _ (List.mem_of_getElem? (i := 109) rfl)), rfl⟩
theorem kw_763 : Cond.selects RX9 yX9_lawBars yX9_lawBars ∈ gWS := List.mem_filter.mpr ⟨(List.mem_append_left _ (List.mem_of_getElem? (i := 22) rfl)), rfl⟩
theorem kw_764 : Cond.code yX9_lawBars cX9_lawBars 6 (some .boolean) ∈ gWS := List.mem_filter.mpr ⟨(tk_4 _ (List.mem_of_getElem? (i := 110) rfl)), rfl⟩
theorem kw_765 : Cond.methodLink RX9 45 yX10_lawInForce ∈ gWS := List.mem_filter.mpr ⟨(tk_4 _ (List.mem_of_getElem? (i := 111) rfl)), rfl⟩
theorem kw_766 : Cond.instanceMethod yX10_lawInForce ∈ gWS := List.mem_filter.mpr ⟨(tk_4 _ (List.mem_of_getElem? (i := 112) rfl)), rfl⟩
theorem kw_767 : Cond.selects RX10 yX10_lawInForce yX10_lawInForce ∈ gWS := List.mem_filter.mpr ⟨(tk_4 _ (List.mem_of_getElem? (i := 113) rfl)), rfl⟩
theorem kw_768 : Cond.code yX10_lawInForce cX10_lawInForce 1 (some (.object "CornerTown$Law")) ∈ gWS := List.mem_filter.mpr ⟨(tk_4 _ (List.mem_of_getElem? (i := 114) rfl)), rfl⟩
theorem kw_769 : Cond.methodLink RX9 51 yX7_tellVisit ∈ gWS := List.mem_filter.mpr ⟨(tk_4 _ (List.mem_of_getElem? (i := 115) rfl)), rfl⟩
theorem kw_770 : Cond.instanceMethod yX7_tellVisit ∈ gWS := List.mem_filter.mpr ⟨(tk_4 _ (List.mem_of_getElem? (i := 116) rfl)), rfl⟩
theorem kw_771 : Cond.selects RX7 yX7_tellVisit yX7_tellVisit ∈ gWS := List.mem_filter.mpr ⟨(tk_4 _ (List.mem_of_getElem? (i := 117) rfl)), rfl⟩
theorem kw_772 : Cond.code yX7_tellVisit cX7_tellVisit 6 none ∈ gWS := List.mem_filter.mpr ⟨(tk_4 _ (List.mem_of_getElem? (i := 118) rfl)), rfl⟩
theorem kw_773 : Cond.fieldLink RX7 33 "CornerTown$Town" "ranks" "[I" ∈ gWS := List.mem_filter.mpr ⟨(tk_1 _ (List.mem_of_getElem? (i := 76) rfl)), rfl⟩
theorem kw_774 : Cond.fieldLink RX7 36 "CornerTown$Town" "wide" "[I" ∈ gWS := List.mem_filter.mpr ⟨(tk_1 _ (List.mem_of_getElem? (i := 70) rfl)), rfl⟩
theorem kw_775 : Cond.fieldLink RX7 39 "CornerTown$Town" "deep" "[I" ∈ gWS := List.mem_filter.mpr ⟨(tk_1 _ (List.mem_of_getElem? (i := 73) rfl)), rfl⟩
theorem kw_776 : Cond.fieldLink RX7 42 "CornerTown$Town" "hour" "I" ∈ gWS := List.mem_filter.mpr ⟨(tk_1 _ (List.mem_of_getElem? (i := 108) rfl)), rfl⟩
theorem kw_777 : Cond.methodLink RX7 27 yX10_has ∈ gWS := List.mem_filter.mpr ⟨(tk_4 _ (List.mem_of_getElem? (i := 119) rfl)), rfl⟩
theorem kw_778 : Cond.methodLink RX9 55 yX7_bars ∈ gWS := List.mem_filter.mpr ⟨(tk_4 _ (List.mem_of_getElem? (i := 120) rfl)), rfl⟩
theorem kw_779 : Cond.instanceMethod yX7_bars ∈ gWS := List.mem_filter.mpr ⟨(tk_4 _ (List.mem_of_getElem? (i := 121) rfl)), rfl⟩
theorem kw_780 : Cond.selects RX7 yX7_bars yX7_bars ∈ gWS := List.mem_filter.mpr ⟨(tk_4 _ (List.mem_of_getElem? (i := 122) rfl)), rfl⟩
theorem kw_781 : Cond.code yX7_bars cX7_bars 3 (some .boolean) ∈ gWS := List.mem_filter.mpr ⟨(tk_4 _ (List.mem_of_getElem? (i := 123) rfl)), rfl⟩
theorem kw_782 : Cond.fieldLink RX7 45 "CornerTown$Law" "clauses" "I" ∈ gWS := List.mem_filter.mpr ⟨(tk_4 _ (List.mem_of_getElem? (i := 55) rfl)), rfl⟩
theorem kw_783 : Cond.methodLink RX7 50 yX3_isTakes ∈ gWS := List.mem_filter.mpr ⟨(tk_4 _ (List.mem_of_getElem? (i := 124) rfl)), rfl⟩
theorem kw_784 : Cond.instanceMethod yX3_isTakes ∈ gWS := List.mem_filter.mpr ⟨(tk_4 _ (List.mem_of_getElem? (i := 125) rfl)), rfl⟩
theorem kw_785 : Cond.selects RX3 yX3_isTakes yX3_isTakes ∈ gWS := List.mem_filter.mpr ⟨(tk_4 _ (List.mem_of_getElem? (i := 126) rfl)), rfl⟩
theorem kw_786 : Cond.code yX3_isTakes cX3_isTakes 2 (some .boolean) ∈ gWS := List.mem_filter.mpr ⟨(tk_4 _ (List.mem_of_getElem? (i := 127) rfl)), rfl⟩
theorem kw_787 : Cond.methodLink RX7 53 yX7_holds ∈ gWS := List.mem_filter.mpr ⟨(tk_4 _ (List.mem_of_getElem? (i := 128) rfl)), rfl⟩
theorem kw_788 : Cond.instanceMethod yX7_holds ∈ gWS := List.mem_filter.mpr ⟨(tk_4 _ (List.mem_of_getElem? (i := 130) rfl)), rfl⟩
theorem kw_789 : Cond.selects RX7 yX7_holds yX7_holds ∈ gWS := List.mem_filter.mpr ⟨(List.mem_append_left _ (List.mem_of_getElem? (i := 23) rfl)), rfl⟩
theorem kw_790 : Cond.code yX7_holds cX7_holds 8 (some .boolean) ∈ gWS := List.mem_filter.mpr ⟨(tk_4 _ (List.mem_of_getElem? (i := 131) rfl)), rfl⟩
theorem kw_791 : Cond.methodLink RX7 68 yX3_endOf ∈ gWS := List.mem_filter.mpr ⟨(tk_4 _ (List.mem_of_getElem? (i := 132) rfl)), rfl⟩
theorem kw_792 : Cond.instanceMethod yX3_endOf ∈ gWS := List.mem_filter.mpr ⟨(tk_4 _ (List.mem_of_getElem? (i := 133) rfl)), rfl⟩
theorem kw_793 : Cond.selects RX3 yX3_endOf yX3_endOf ∈ gWS := List.mem_filter.mpr ⟨(tk_4 _ (List.mem_of_getElem? (i := 134) rfl)), rfl⟩
theorem kw_794 : Cond.code yX3_endOf cX3_endOf 2 (some .int) ∈ gWS := List.mem_filter.mpr ⟨(tk_4 _ (List.mem_of_getElem? (i := 135) rfl)), rfl⟩
theorem kw_795 : Cond.methodLink RX7 72 yX3_startOf ∈ gWS := List.mem_filter.mpr ⟨(tk_4 _ (List.mem_of_getElem? (i := 136) rfl)), rfl⟩
theorem kw_796 : Cond.instanceMethod yX3_startOf ∈ gWS := List.mem_filter.mpr ⟨(tk_4 _ (List.mem_of_getElem? (i := 137) rfl)), rfl⟩
theorem kw_797 : Cond.selects RX3 yX3_startOf yX3_startOf ∈ gWS := List.mem_filter.mpr ⟨(tk_4 _ (List.mem_of_getElem? (i := 138) rfl)), rfl⟩
theorem kw_798 : Cond.code yX3_startOf cX3_startOf 2 (some .int) ∈ gWS := List.mem_filter.mpr ⟨(tk_4 _ (List.mem_of_getElem? (i := 139) rfl)), rfl⟩
theorem kw_799 : Cond.methodLink RX7 75 yX3_stepAt ∈ gWS := List.mem_filter.mpr ⟨(tk_4 _ (List.mem_of_getElem? (i := 140) rfl)), rfl⟩
theorem kw_800 : Cond.instanceMethod yX3_stepAt ∈ gWS := List.mem_filter.mpr ⟨(tk_4 _ (List.mem_of_getElem? (i := 141) rfl)), rfl⟩
theorem kw_801 : Cond.selects RX3 yX3_stepAt yX3_stepAt ∈ gWS := List.mem_filter.mpr ⟨(tk_4 _ (List.mem_of_getElem? (i := 142) rfl)), rfl⟩
theorem kw_802 : Cond.code yX3_stepAt cX3_stepAt 2 (some .int) ∈ gWS := List.mem_filter.mpr ⟨(tk_4 _ (List.mem_of_getElem? (i := 143) rfl)), rfl⟩
theorem kw_803 : Cond.methodLink RX7 78 yX7_push ∈ gWS := List.mem_filter.mpr ⟨(tk_4 _ (List.mem_of_getElem? (i := 144) rfl)), rfl⟩
theorem kw_804 : Cond.instanceMethod yX7_push ∈ gWS := List.mem_filter.mpr ⟨(tk_4 _ (List.mem_of_getElem? (i := 146) rfl)), rfl⟩
theorem kw_805 : Cond.selects RX7 yX7_push yX7_push ∈ gWS := List.mem_filter.mpr ⟨(List.mem_append_left _ (List.mem_of_getElem? (i := 24) rfl)), rfl⟩
theorem kw_806 : Cond.code yX7_push cX7_push 3 none ∈ gWS := List.mem_filter.mpr ⟨(tk_4 _ (List.mem_of_getElem? (i := 147) rfl)), rfl⟩
theorem kw_807 : Cond.methodLink RX7 82 yX7_turn ∈ gWS := List.mem_filter.mpr ⟨(tk_4 _ (List.mem_of_getElem? (i := 148) rfl)), rfl⟩
theorem kw_808 : Cond.instanceMethod yX7_turn ∈ gWS := List.mem_filter.mpr ⟨(tk_4 _ (List.mem_of_getElem? (i := 150) rfl)), rfl⟩
theorem kw_809 : Cond.selects RX7 yX7_turn yX7_turn ∈ gWS := List.mem_filter.mpr ⟨(List.mem_append_left _ (List.mem_of_getElem? (i := 25) rfl)), rfl⟩
theorem kw_810 : Cond.code yX7_turn cX7_turn 1 none ∈ gWS := List.mem_filter.mpr ⟨(tk_4 _ (List.mem_of_getElem? (i := 151) rfl)), rfl⟩
theorem kw_811 : Cond.methodLink RX7 85 yX7_decides ∈ gWS := List.mem_filter.mpr ⟨(tk_4 _ (List.mem_of_getElem? (i := 152) rfl)), rfl⟩
theorem kw_812 : Cond.instanceMethod yX7_decides ∈ gWS := List.mem_filter.mpr ⟨(tk_4 _ (List.mem_of_getElem? (i := 154) rfl)), rfl⟩
theorem kw_813 : Cond.selects RX7 yX7_decides yX7_decides ∈ gWS := List.mem_filter.mpr ⟨(List.mem_append_left _ (List.mem_of_getElem? (i := 26) rfl)), rfl⟩
theorem kw_814 : Cond.code yX7_decides cX7_decides 2 (some .boolean) ∈ gWS := List.mem_filter.mpr ⟨(tk_4 _ (List.mem_of_getElem? (i := 155) rfl)), rfl⟩
theorem kw_815 : Cond.methodLink RX7 88 yX7_join ∈ gWS := List.mem_filter.mpr ⟨(tk_4 _ (List.mem_of_getElem? (i := 156) rfl)), rfl⟩
theorem kw_816 : Cond.instanceMethod yX7_join ∈ gWS := List.mem_filter.mpr ⟨(tk_4 _ (List.mem_of_getElem? (i := 158) rfl)), rfl⟩
theorem kw_817 : Cond.selects RX7 yX7_join yX7_join ∈ gWS := List.mem_filter.mpr ⟨(List.mem_append_left _ (List.mem_of_getElem? (i := 27) rfl)), rfl⟩
theorem kw_818 : Cond.code yX7_join cX7_join 8 none ∈ gWS := List.mem_filter.mpr ⟨(tk_4 _ (List.mem_of_getElem? (i := 159) rfl)), rfl⟩
theorem kw_819 : Cond.constantLong RX7 95 (1000000000) ∈ gWS := List.mem_filter.mpr ⟨(tk_4 _ (List.mem_of_getElem? (i := 160) rfl)), rfl⟩
theorem kw_820 : Cond.constantLong RX7 97 (-1000000000) ∈ gWS := List.mem_filter.mpr ⟨(tk_4 _ (List.mem_of_getElem? (i := 161) rfl)), rfl⟩
theorem kw_821 : Cond.methodLink RX7 92 yX3_isTested ∈ gWS := List.mem_filter.mpr ⟨(tk_4 _ (List.mem_of_getElem? (i := 162) rfl)), rfl⟩
theorem kw_822 : Cond.instanceMethod yX3_isTested ∈ gWS := List.mem_filter.mpr ⟨(tk_4 _ (List.mem_of_getElem? (i := 163) rfl)), rfl⟩
theorem kw_823 : Cond.selects RX3 yX3_isTested yX3_isTested ∈ gWS := List.mem_filter.mpr ⟨(tk_4 _ (List.mem_of_getElem? (i := 164) rfl)), rfl⟩
theorem kw_824 : Cond.code yX3_isTested cX3_isTested 2 (some .boolean) ∈ gWS := List.mem_filter.mpr ⟨(tk_4 _ (List.mem_of_getElem? (i := 165) rfl)), rfl⟩
theorem kw_825 : Cond.methodLink RX11 201 yX9_timeOf ∈ gWS := List.mem_filter.mpr ⟨(tk_4 _ (List.mem_of_getElem? (i := 166) rfl)), rfl⟩
theorem kw_826 : Cond.instanceMethod yX9_timeOf ∈ gWS := List.mem_filter.mpr ⟨(tk_4 _ (List.mem_of_getElem? (i := 167) rfl)), rfl⟩
theorem kw_827 : Cond.selects RX9 yX9_timeOf yX9_timeOf ∈ gWS := List.mem_filter.mpr ⟨(tk_4 _ (List.mem_of_getElem? (i := 168) rfl)), rfl⟩
theorem kw_828 : Cond.code yX9_timeOf cX9_timeOf 4 (some .int) ∈ gWS := List.mem_filter.mpr ⟨(tk_4 _ (List.mem_of_getElem? (i := 169) rfl)), rfl⟩
theorem kw_829 : Cond.fieldLink RX9 70 "CornerTown$Town" "day" "I" ∈ gWS := List.mem_filter.mpr ⟨(tk_1 _ (List.mem_of_getElem? (i := 111) rfl)), rfl⟩
theorem kw_830 : Cond.methodLink RX9 59 yX10_has ∈ gWS := List.mem_filter.mpr ⟨(tk_4 _ (List.mem_of_getElem? (i := 170) rfl)), rfl⟩
theorem kw_831 : Cond.methodLink RX9 77 yX7_takes ∈ gWS := List.mem_filter.mpr ⟨(tk_4 _ (List.mem_of_getElem? (i := 171) rfl)), rfl⟩
theorem kw_832 : Cond.instanceMethod yX7_takes ∈ gWS := List.mem_filter.mpr ⟨(tk_4 _ (List.mem_of_getElem? (i := 172) rfl)), rfl⟩
theorem kw_833 : Cond.selects RX7 yX7_takes yX7_takes ∈ gWS := List.mem_filter.mpr ⟨(tk_4 _ (List.mem_of_getElem? (i := 173) rfl)), rfl⟩
theorem kw_834 : Cond.code yX7_takes cX7_takes 3 (some .int) ∈ gWS := List.mem_filter.mpr ⟨(tk_4 _ (List.mem_of_getElem? (i := 174) rfl)), rfl⟩
theorem kw_835 : Cond.constantLong RX7 57 (99) ∈ gWS := List.mem_filter.mpr ⟨(tk_4 _ (List.mem_of_getElem? (i := 175) rfl)), rfl⟩
theorem kw_836 : Cond.methodLink RX7 59 Lib.MathLoose.min_long.x ∈ gWS := List.mem_filter.mpr ⟨(tk_4 _ (List.mem_of_getElem? (i := 176) rfl)), rfl⟩
theorem kw_837 : Cond.static Lib.MathLoose.min_long.x ∈ gWS := List.mem_filter.mpr ⟨(tk_4 _ (List.mem_of_getElem? (i := 177) rfl)), rfl⟩
theorem kw_838 : Cond.code Lib.MathLoose.min_long.x Lib.MathLoose.min_long.code 4 (some .long) ∈ gWS := List.mem_filter.mpr ⟨(tk_4 _ (List.mem_of_getElem? (i := 178) rfl)), rfl⟩
theorem kw_839 : Cond.methodLink RX7 65 Lib.MathLoose.max_long.x ∈ gWS := List.mem_filter.mpr ⟨(tk_4 _ (List.mem_of_getElem? (i := 179) rfl)), rfl⟩
theorem kw_840 : Cond.static Lib.MathLoose.max_long.x ∈ gWS := List.mem_filter.mpr ⟨(tk_4 _ (List.mem_of_getElem? (i := 180) rfl)), rfl⟩
theorem kw_841 : Cond.code Lib.MathLoose.max_long.x Lib.MathLoose.max_long.code 4 (some .long) ∈ gWS := List.mem_filter.mpr ⟨(tk_4 _ (List.mem_of_getElem? (i := 181) rfl)), rfl⟩
theorem kw_842 : Cond.methodLink RX11 204 yX9_isBarred ∈ gWS := List.mem_filter.mpr ⟨(tk_4 _ (List.mem_of_getElem? (i := 182) rfl)), rfl⟩
theorem kw_843 : Cond.instanceMethod yX9_isBarred ∈ gWS := List.mem_filter.mpr ⟨(tk_4 _ (List.mem_of_getElem? (i := 183) rfl)), rfl⟩
theorem kw_844 : Cond.selects RX9 yX9_isBarred yX9_isBarred ∈ gWS := List.mem_filter.mpr ⟨(tk_4 _ (List.mem_of_getElem? (i := 184) rfl)), rfl⟩
theorem kw_845 : Cond.code yX9_isBarred cX9_isBarred 3 (some .boolean) ∈ gWS := List.mem_filter.mpr ⟨(tk_4 _ (List.mem_of_getElem? (i := 185) rfl)), rfl⟩
theorem kw_846 : Cond.methodLink RL 85 yX12_visit ∈ gWS := List.mem_filter.mpr ⟨(tk_7 _ (List.mem_of_getElem? (i := 202) rfl)), rfl⟩
theorem kw_847 : Cond.instanceMethod yX12_visit ∈ gWS := List.mem_filter.mpr ⟨(tk_7 _ (List.mem_of_getElem? (i := 203) rfl)), rfl⟩
theorem kw_848 : Cond.selects RX12 yX12_visit yX12_visit ∈ gWS := List.mem_filter.mpr ⟨(tk_7 _ (List.mem_of_getElem? (i := 204) rfl)), rfl⟩
theorem kw_849 : Cond.code yX12_visit cX12_visit 4 (some .int) ∈ gWS := List.mem_filter.mpr ⟨(tk_7 _ (List.mem_of_getElem? (i := 205) rfl)), rfl⟩
theorem kw_850 : Cond.fieldLink RX12 287 "CornerTownModel" "toldTakes" "I" ∈ gWS := List.mem_filter.mpr ⟨(tk_6 _ (List.mem_of_getElem? (i := 103) rfl)), rfl⟩
theorem kw_851 : Cond.fieldLink RX12 290 "CornerTownModel" "toldBars" "Z" ∈ gWS := List.mem_filter.mpr ⟨(tk_6 _ (List.mem_of_getElem? (i := 104) rfl)), rfl⟩
theorem kw_852 : Cond.methodLink RX12 314 yX12_looks ∈ gWS := List.mem_filter.mpr ⟨(tk_7 _ (List.mem_of_getElem? (i := 206) rfl)), rfl⟩
theorem kw_853 : Cond.instanceMethod yX12_looks ∈ gWS := List.mem_filter.mpr ⟨(tk_7 _ (List.mem_of_getElem? (i := 208) rfl)), rfl⟩
theorem kw_854 : Cond.selects RX12 yX12_looks yX12_looks ∈ gWS := List.mem_filter.mpr ⟨(List.mem_append_left _ (List.mem_of_getElem? (i := 80) rfl)), rfl⟩
theorem kw_855 : Cond.code yX12_looks cX12_looks 1 none ∈ gWS := List.mem_filter.mpr ⟨(tk_7 _ (List.mem_of_getElem? (i := 209) rfl)), rfl⟩
theorem kw_856 : Cond.methodLink RX12 311 yX12_laysVisits ∈ gWS := List.mem_filter.mpr ⟨(tk_7 _ (List.mem_of_getElem? (i := 210) rfl)), rfl⟩
theorem kw_857 : Cond.instanceMethod yX12_laysVisits ∈ gWS := List.mem_filter.mpr ⟨(tk_7 _ (List.mem_of_getElem? (i := 212) rfl)), rfl⟩
theorem kw_858 : Cond.selects RX12 yX12_laysVisits yX12_laysVisits ∈ gWS := List.mem_filter.mpr ⟨(List.mem_append_left _ (List.mem_of_getElem? (i := 81) rfl)), rfl⟩
theorem kw_859 : Cond.code yX12_laysVisits cX12_laysVisits 5 none ∈ gWS := List.mem_filter.mpr ⟨(tk_7 _ (List.mem_of_getElem? (i := 213) rfl)), rfl⟩
theorem kw_860 : Cond.methodLink RX12 129 yX12_stands ∈ gWS := List.mem_filter.mpr ⟨(tk_7 _ (List.mem_of_getElem? (i := 214) rfl)), rfl⟩
theorem kw_861 : Cond.instanceMethod yX12_stands ∈ gWS := List.mem_filter.mpr ⟨(tk_7 _ (List.mem_of_getElem? (i := 216) rfl)), rfl⟩
theorem kw_862 : Cond.selects RX12 yX12_stands yX12_stands ∈ gWS := List.mem_filter.mpr ⟨(List.mem_append_left _ (List.mem_of_getElem? (i := 82) rfl)), rfl⟩
theorem kw_863 : Cond.code yX12_stands cX12_stands 2 (some .boolean) ∈ gWS := List.mem_filter.mpr ⟨(tk_7 _ (List.mem_of_getElem? (i := 217) rfl)), rfl⟩
theorem kw_864 : Cond.methodLink RX12 307 yX12_asksOf ∈ gWS := List.mem_filter.mpr ⟨(tk_7 _ (List.mem_of_getElem? (i := 218) rfl)), rfl⟩
theorem kw_865 : Cond.instanceMethod yX12_asksOf ∈ gWS := List.mem_filter.mpr ⟨(tk_7 _ (List.mem_of_getElem? (i := 220) rfl)), rfl⟩
theorem kw_866 : Cond.selects RX12 yX12_asksOf yX12_asksOf ∈ gWS := List.mem_filter.mpr ⟨(List.mem_append_left _ (List.mem_of_getElem? (i := 83) rfl)), rfl⟩
theorem kw_867 : Cond.code yX12_asksOf cX12_asksOf 10 none ∈ gWS := List.mem_filter.mpr ⟨(tk_7 _ (List.mem_of_getElem? (i := 221) rfl)), rfl⟩
theorem kw_868 : Cond.fieldLink RX12 243 "CornerTownModel" "go" "I" ∈ gWS := List.mem_filter.mpr ⟨(tk_6 _ (List.mem_of_getElem? (i := 99) rfl)), rfl⟩
theorem kw_869 : Cond.fieldLink RX12 240 "CornerTownModel" "goEnd" "I" ∈ gWS := List.mem_filter.mpr ⟨(tk_6 _ (List.mem_of_getElem? (i := 100) rfl)), rfl⟩
theorem kw_870 : Cond.fieldLink RX12 253 "CornerTownModel" "broken" "Z" ∈ gWS := List.mem_filter.mpr ⟨(tk_6 _ (List.mem_of_getElem? (i := 101) rfl)), rfl⟩
theorem kw_871 : Cond.constantLong RX12 293 (99) ∈ gWS := List.mem_filter.mpr ⟨(tk_8 _ (List.mem_of_getElem? (i := 24) rfl)), rfl⟩
theorem kw_872 : Cond.methodLink RX12 246 yX12_codeAt ∈ gWS := List.mem_filter.mpr ⟨(tk_7 _ (List.mem_of_getElem? (i := 222) rfl)), rfl⟩
theorem kw_873 : Cond.instanceMethod yX12_codeAt ∈ gWS := List.mem_filter.mpr ⟨(tk_7 _ (List.mem_of_getElem? (i := 224) rfl)), rfl⟩
theorem kw_874 : Cond.selects RX12 yX12_codeAt yX12_codeAt ∈ gWS := List.mem_filter.mpr ⟨(List.mem_append_left _ (List.mem_of_getElem? (i := 84) rfl)), rfl⟩
theorem kw_875 : Cond.code yX12_codeAt cX12_codeAt 2 (some .int) ∈ gWS := List.mem_filter.mpr ⟨(tk_7 _ (List.mem_of_getElem? (i := 225) rfl)), rfl⟩
theorem kw_876 : Cond.methodLink RX12 271 yX12_sumOf ∈ gWS := List.mem_filter.mpr ⟨(tk_7 _ (List.mem_of_getElem? (i := 226) rfl)), rfl⟩
theorem kw_877 : Cond.instanceMethod yX12_sumOf ∈ gWS := List.mem_filter.mpr ⟨(tk_7 _ (List.mem_of_getElem? (i := 228) rfl)), rfl⟩
theorem kw_878 : Cond.selects RX12 yX12_sumOf yX12_sumOf ∈ gWS := List.mem_filter.mpr ⟨(List.mem_append_left _ (List.mem_of_getElem? (i := 85) rfl)), rfl⟩
theorem kw_879 : Cond.code yX12_sumOf cX12_sumOf 7 (some .long) ∈ gWS := List.mem_filter.mpr ⟨(tk_7 _ (List.mem_of_getElem? (i := 229) rfl)), rfl⟩
theorem kw_880 : Cond.methodLink RX12 257 yX12_termOf ∈ gWS := List.mem_filter.mpr ⟨(tk_7 _ (List.mem_of_getElem? (i := 230) rfl)), rfl⟩
theorem kw_881 : Cond.instanceMethod yX12_termOf ∈ gWS := List.mem_filter.mpr ⟨(tk_7 _ (List.mem_of_getElem? (i := 232) rfl)), rfl⟩
theorem kw_882 : Cond.selects RX12 yX12_termOf yX12_termOf ∈ gWS := List.mem_filter.mpr ⟨(List.mem_append_left _ (List.mem_of_getElem? (i := 86) rfl)), rfl⟩
theorem kw_883 : Cond.methodLink RX12 261 yX12_bounded ∈ gWS := List.mem_filter.mpr ⟨(tk_8 _ (List.mem_of_getElem? (i := 2) rfl)), rfl⟩
theorem kw_884 : Cond.instanceMethod yX12_bounded ∈ gWS := List.mem_filter.mpr ⟨(tk_8 _ (List.mem_of_getElem? (i := 4) rfl)), rfl⟩
theorem kw_885 : Cond.selects RX12 yX12_bounded yX12_bounded ∈ gWS := List.mem_filter.mpr ⟨(List.mem_append_left _ (List.mem_of_getElem? (i := 89) rfl)), rfl⟩
theorem kw_886 : Cond.code yX12_bounded cX12_bounded 4 (some .long) ∈ gWS := List.mem_filter.mpr ⟨(tk_8 _ (List.mem_of_getElem? (i := 5) rfl)), rfl⟩
theorem kw_887 : Cond.constantLong RX12 249 (1000000000) ∈ gWS := List.mem_filter.mpr ⟨(tk_8 _ (List.mem_of_getElem? (i := 6) rfl)), rfl⟩
theorem kw_888 : Cond.constantLong RX12 251 (-1000000000) ∈ gWS := List.mem_filter.mpr ⟨(tk_8 _ (List.mem_of_getElem? (i := 7) rfl)), rfl⟩
theorem kw_889 : Cond.code yX12_partOf cX12_partOf 4 (some .long) ∈ gWS := List.mem_filter.mpr ⟨(tk_7 _ (List.mem_of_getElem? (i := 237) rfl)), rfl⟩
theorem kw_890 : Cond.methodLink RX12 268 yX12_passes0 ∈ gWS := List.mem_filter.mpr ⟨(tk_7 _ (List.mem_of_getElem? (i := 238) rfl)), rfl⟩
theorem kw_891 : Cond.instanceMethod yX12_passes0 ∈ gWS := List.mem_filter.mpr ⟨(tk_8 _ (List.mem_of_getElem? (i := 0) rfl)), rfl⟩
theorem kw_892 : Cond.selects RX12 yX12_passes0 yX12_passes0 ∈ gWS := List.mem_filter.mpr ⟨(List.mem_append_left _ (List.mem_of_getElem? (i := 88) rfl)), rfl⟩
theorem kw_893 : Cond.code yX12_passes0 cX12_passes0 3 (some .boolean) ∈ gWS := List.mem_filter.mpr ⟨(tk_8 _ (List.mem_of_getElem? (i := 1) rfl)), rfl⟩
theorem kw_894 : Cond.code yX12_termOf cX12_termOf 7 (some .long) ∈ gWS := List.mem_filter.mpr ⟨(tk_7 _ (List.mem_of_getElem? (i := 233) rfl)), rfl⟩
theorem kw_895 : Cond.methodLink RX12 265 yX12_partOf ∈ gWS := List.mem_filter.mpr ⟨(tk_7 _ (List.mem_of_getElem? (i := 234) rfl)), rfl⟩
theorem kw_896 : Cond.instanceMethod yX12_partOf ∈ gWS := List.mem_filter.mpr ⟨(tk_7 _ (List.mem_of_getElem? (i := 236) rfl)), rfl⟩
theorem kw_897 : Cond.selects RX12 yX12_partOf yX12_partOf ∈ gWS := List.mem_filter.mpr ⟨(List.mem_append_left _ (List.mem_of_getElem? (i := 87) rfl)), rfl⟩
theorem kw_898 : Cond.methodLink RX12 284 yX12_testOf ∈ gWS := List.mem_filter.mpr ⟨(tk_8 _ (List.mem_of_getElem? (i := 8) rfl)), rfl⟩
theorem kw_899 : Cond.instanceMethod yX12_testOf ∈ gWS := List.mem_filter.mpr ⟨(tk_8 _ (List.mem_of_getElem? (i := 10) rfl)), rfl⟩
theorem kw_900 : Cond.selects RX12 yX12_testOf yX12_testOf ∈ gWS := List.mem_filter.mpr ⟨(List.mem_append_left _ (List.mem_of_getElem? (i := 90) rfl)), rfl⟩
theorem kw_901 : Cond.code yX12_testOf cX12_testOf 4 (some .boolean) ∈ gWS := List.mem_filter.mpr ⟨(tk_8 _ (List.mem_of_getElem? (i := 11) rfl)), rfl⟩
theorem kw_902 : Cond.methodLink RX12 274 yX12_bothOf ∈ gWS := List.mem_filter.mpr ⟨(tk_8 _ (List.mem_of_getElem? (i := 12) rfl)), rfl⟩
theorem kw_903 : Cond.instanceMethod yX12_bothOf ∈ gWS := List.mem_filter.mpr ⟨(tk_8 _ (List.mem_of_getElem? (i := 14) rfl)), rfl⟩
theorem kw_904 : Cond.selects RX12 yX12_bothOf yX12_bothOf ∈ gWS := List.mem_filter.mpr ⟨(List.mem_append_left _ (List.mem_of_getElem? (i := 91) rfl)), rfl⟩
theorem kw_905 : Cond.code yX12_bothOf cX12_bothOf 4 (some .boolean) ∈ gWS := List.mem_filter.mpr ⟨(tk_8 _ (List.mem_of_getElem? (i := 15) rfl)), rfl⟩
theorem kw_906 : Cond.methodLink RX12 278 yX12_plainOf ∈ gWS := List.mem_filter.mpr ⟨(tk_8 _ (List.mem_of_getElem? (i := 16) rfl)), rfl⟩
theorem kw_907 : Cond.instanceMethod yX12_plainOf ∈ gWS := List.mem_filter.mpr ⟨(tk_8 _ (List.mem_of_getElem? (i := 18) rfl)), rfl⟩
theorem kw_908 : Cond.selects RX12 yX12_plainOf yX12_plainOf ∈ gWS := List.mem_filter.mpr ⟨(List.mem_append_left _ (List.mem_of_getElem? (i := 92) rfl)), rfl⟩
theorem kw_909 : Cond.code yX12_plainOf cX12_plainOf 3 (some .boolean) ∈ gWS := List.mem_filter.mpr ⟨(tk_8 _ (List.mem_of_getElem? (i := 19) rfl)), rfl⟩
theorem kw_910 : Cond.methodLink RX12 281 yX12_positiveOf ∈ gWS := List.mem_filter.mpr ⟨(tk_8 _ (List.mem_of_getElem? (i := 20) rfl)), rfl⟩
theorem kw_911 : Cond.instanceMethod yX12_positiveOf ∈ gWS := List.mem_filter.mpr ⟨(tk_8 _ (List.mem_of_getElem? (i := 22) rfl)), rfl⟩
theorem kw_912 : Cond.selects RX12 yX12_positiveOf yX12_positiveOf ∈ gWS := List.mem_filter.mpr ⟨(List.mem_append_left _ (List.mem_of_getElem? (i := 93) rfl)), rfl⟩
theorem kw_913 : Cond.code yX12_positiveOf cX12_positiveOf 7 (some .boolean) ∈ gWS := List.mem_filter.mpr ⟨(tk_8 _ (List.mem_of_getElem? (i := 23) rfl)), rfl⟩
theorem kw_914 : Cond.methodLink RX12 317 yX12_isIn ∈ gWS := List.mem_filter.mpr ⟨(tk_8 _ (List.mem_of_getElem? (i := 25) rfl)), rfl⟩
theorem kw_915 : Cond.static yX12_isIn ∈ gWS := List.mem_filter.mpr ⟨(tk_8 _ (List.mem_of_getElem? (i := 26) rfl)), rfl⟩
theorem kw_916 : Cond.code yX12_isIn cX12_isIn 2 (some .boolean) ∈ gWS := List.mem_filter.mpr ⟨(tk_8 _ (List.mem_of_getElem? (i := 27) rfl)), rfl⟩
theorem kw_917 : Cond.methodLink RL 86 yX11_visits ∈ gWS := List.mem_filter.mpr ⟨(tk_4 _ (List.mem_of_getElem? (i := 186) rfl)), rfl⟩
theorem kw_918 : Cond.instanceMethod yX11_visits ∈ gWS := List.mem_filter.mpr ⟨(tk_4 _ (List.mem_of_getElem? (i := 187) rfl)), rfl⟩
theorem kw_919 : Cond.selects RX11 yX11_visits yX11_visits ∈ gWS := List.mem_filter.mpr ⟨(tk_4 _ (List.mem_of_getElem? (i := 188) rfl)), rfl⟩
theorem kw_920 : Cond.code yX11_visits cX11_visits 2 (some .int) ∈ gWS := List.mem_filter.mpr ⟨(tk_4 _ (List.mem_of_getElem? (i := 189) rfl)), rfl⟩
theorem kw_921 : Cond.methodLink RX11 207 yX9_openRows ∈ gWS := List.mem_filter.mpr ⟨(tk_4 _ (List.mem_of_getElem? (i := 190) rfl)), rfl⟩
theorem kw_922 : Cond.instanceMethod yX9_openRows ∈ gWS := List.mem_filter.mpr ⟨(tk_4 _ (List.mem_of_getElem? (i := 191) rfl)), rfl⟩
theorem kw_923 : Cond.selects RX9 yX9_openRows yX9_openRows ∈ gWS := List.mem_filter.mpr ⟨(tk_4 _ (List.mem_of_getElem? (i := 192) rfl)), rfl⟩
theorem kw_924 : Cond.code yX9_openRows cX9_openRows 1 (some (.array .int)) ∈ gWS := List.mem_filter.mpr ⟨(tk_4 _ (List.mem_of_getElem? (i := 193) rfl)), rfl⟩
theorem kw_925 : Cond.fieldLink RX9 91 "CornerTown$Town" "changes" "I" ∈ gWS := List.mem_filter.mpr ⟨(tk_1 _ (List.mem_of_getElem? (i := 128) rfl)), rfl⟩
theorem kw_926 : Cond.methodLink RX9 94 yX9_fillOpen ∈ gWS := List.mem_filter.mpr ⟨(tk_4 _ (List.mem_of_getElem? (i := 194) rfl)), rfl⟩
theorem kw_927 : Cond.instanceMethod yX9_fillOpen ∈ gWS := List.mem_filter.mpr ⟨(tk_4 _ (List.mem_of_getElem? (i := 195) rfl)), rfl⟩
theorem kw_928 : Cond.selects RX9 yX9_fillOpen yX9_fillOpen ∈ gWS := List.mem_filter.mpr ⟨(tk_4 _ (List.mem_of_getElem? (i := 196) rfl)), rfl⟩
theorem kw_929 : Cond.code yX9_fillOpen cX9_fillOpen 5 none ∈ gWS := List.mem_filter.mpr ⟨(tk_4 _ (List.mem_of_getElem? (i := 197) rfl)), rfl⟩
theorem kw_930 : Cond.fieldLink RX9 98 "CornerTown$Town" "houses" "I" ∈ gWS := List.mem_filter.mpr ⟨(tk_1 _ (List.mem_of_getElem? (i := 84) rfl)), rfl⟩
theorem kw_931 : Cond.methodLink RX9 101 yX9_isOpen ∈ gWS := List.mem_filter.mpr ⟨(tk_4 _ (List.mem_of_getElem? (i := 198) rfl)), rfl⟩
theorem kw_932 : Cond.methodLink RL 89 yX12_visits ∈ gWS := List.mem_filter.mpr ⟨(tk_8 _ (List.mem_of_getElem? (i := 28) rfl)), rfl⟩
theorem kw_933 : Cond.instanceMethod yX12_visits ∈ gWS := List.mem_filter.mpr ⟨(tk_8 _ (List.mem_of_getElem? (i := 29) rfl)), rfl⟩
theorem kw_934 : Cond.selects RX12 yX12_visits yX12_visits ∈ gWS := List.mem_filter.mpr ⟨(tk_8 _ (List.mem_of_getElem? (i := 30) rfl)), rfl⟩
theorem kw_935 : Cond.code yX12_visits cX12_visits 2 (some .int) ∈ gWS := List.mem_filter.mpr ⟨(tk_8 _ (List.mem_of_getElem? (i := 31) rfl)), rfl⟩
theorem kw_936 : Cond.methodLink RL 90 yX11_comes ∈ gWS := List.mem_filter.mpr ⟨(tk_4 _ (List.mem_of_getElem? (i := 199) rfl)), rfl⟩
theorem kw_937 : Cond.instanceMethod yX11_comes ∈ gWS := List.mem_filter.mpr ⟨(tk_4 _ (List.mem_of_getElem? (i := 200) rfl)), rfl⟩
theorem kw_938 : Cond.selects RX11 yX11_comes yX11_comes ∈ gWS := List.mem_filter.mpr ⟨(tk_4 _ (List.mem_of_getElem? (i := 201) rfl)), rfl⟩
theorem kw_939 : Cond.code yX11_comes cX11_comes 4 (some .int) ∈ gWS := List.mem_filter.mpr ⟨(tk_4 _ (List.mem_of_getElem? (i := 202) rfl)), rfl⟩
theorem kw_940 : Cond.fieldLink RX11 215 "CornerTown$Crossings" "fewest" "I" ∈ gWS := List.mem_filter.mpr ⟨(tk_2 _ (List.mem_of_getElem? (i := 38) rfl)), rfl⟩
theorem kw_941 : Cond.fieldLink RX11 218 "CornerTown$Crossings" "waysOfFewest" "I" ∈ gWS := List.mem_filter.mpr ⟨(tk_2 _ (List.mem_of_getElem? (i := 40) rfl)), rfl⟩
theorem kw_942 : Cond.methodLink RX11 211 yX0_countWays ∈ gWS := List.mem_filter.mpr ⟨(tk_4 _ (List.mem_of_getElem? (i := 203) rfl)), rfl⟩
theorem kw_943 : Cond.instanceMethod yX0_countWays ∈ gWS := List.mem_filter.mpr ⟨(tk_4 _ (List.mem_of_getElem? (i := 204) rfl)), rfl⟩
theorem kw_944 : Cond.selects RX0 yX0_countWays yX0_countWays ∈ gWS := List.mem_filter.mpr ⟨(tk_4 _ (List.mem_of_getElem? (i := 205) rfl)), rfl⟩
theorem kw_945 : Cond.code yX0_countWays cX0_countWays 7 none ∈ gWS := List.mem_filter.mpr ⟨(tk_4 _ (List.mem_of_getElem? (i := 206) rfl)), rfl⟩
theorem kw_946 : Cond.fieldLink RX0 52 "CornerTown$Town" "standing" "I" ∈ gWS := List.mem_filter.mpr ⟨(tk_1 _ (List.mem_of_getElem? (i := 91) rfl)), rfl⟩
theorem kw_947 : Cond.methodLink RX0 46 yJ7_fill_53178 ∈ gWS := List.mem_filter.mpr ⟨(tk_4 _ (List.mem_of_getElem? (i := 208) rfl)), rfl⟩
theorem kw_948 : Cond.static yJ7_fill_53178 ∈ gWS := List.mem_filter.mpr ⟨(tk_4 _ (List.mem_of_getElem? (i := 209) rfl)), rfl⟩
theorem kw_949 : Cond.code yJ7_fill_53178 cJ7_fill_53178 4 none ∈ gWS := List.mem_filter.mpr ⟨(tk_4 _ (List.mem_of_getElem? (i := 210) rfl)), rfl⟩
theorem kw_950 : Cond.methodLink RX0 61 yX0_spread ∈ gWS := List.mem_filter.mpr ⟨(tk_4 _ (List.mem_of_getElem? (i := 212) rfl)), rfl⟩
theorem kw_951 : Cond.instanceMethod yX0_spread ∈ gWS := List.mem_filter.mpr ⟨(tk_4 _ (List.mem_of_getElem? (i := 214) rfl)), rfl⟩
theorem kw_952 : Cond.selects RX0 yX0_spread yX0_spread ∈ gWS := List.mem_filter.mpr ⟨(List.mem_append_left _ (List.mem_of_getElem? (i := 28) rfl)), rfl⟩
theorem kw_953 : Cond.code yX0_spread cX0_spread 8 (some .int) ∈ gWS := List.mem_filter.mpr ⟨(tk_4 _ (List.mem_of_getElem? (i := 215) rfl)), rfl⟩
theorem kw_954 : Cond.methodLink RX11 221 yX9_measure ∈ gWS := List.mem_filter.mpr ⟨(tk_4 _ (List.mem_of_getElem? (i := 216) rfl)), rfl⟩
theorem kw_955 : Cond.instanceMethod yX9_measure ∈ gWS := List.mem_filter.mpr ⟨(tk_4 _ (List.mem_of_getElem? (i := 217) rfl)), rfl⟩
theorem kw_956 : Cond.selects RX9 yX9_measure yX9_measure ∈ gWS := List.mem_filter.mpr ⟨(tk_4 _ (List.mem_of_getElem? (i := 218) rfl)), rfl⟩
theorem kw_957 : Cond.code yX9_measure cX9_measure 5 none ∈ gWS := List.mem_filter.mpr ⟨(tk_4 _ (List.mem_of_getElem? (i := 219) rfl)), rfl⟩
theorem kw_958 : Cond.constant RX9 112 (16777216) ∈ gWS := List.mem_filter.mpr ⟨(tk_4 _ (List.mem_of_getElem? (i := 221) rfl)), rfl⟩
theorem kw_959 : Cond.fieldLink RX9 113 "CornerTown$Town" "standing" "I" ∈ gWS := List.mem_filter.mpr ⟨(tk_1 _ (List.mem_of_getElem? (i := 93) rfl)), rfl⟩
theorem kw_960 : Cond.methodLink RX9 116 arraycopyName ∈ gWS := List.mem_filter.mpr ⟨(tk_4 _ (List.mem_of_getElem? (i := 222) rfl)), rfl⟩
theorem kw_961 : Cond.methodLink RX9 109 yX9_timeOf ∈ gWS := List.mem_filter.mpr ⟨(tk_4 _ (List.mem_of_getElem? (i := 220) rfl)), rfl⟩
theorem kw_962 : Cond.methodLink RX9 122 yX9_shortenBy ∈ gWS := List.mem_filter.mpr ⟨(tk_4 _ (List.mem_of_getElem? (i := 223) rfl)), rfl⟩
theorem kw_963 : Cond.instanceMethod yX9_shortenBy ∈ gWS := List.mem_filter.mpr ⟨(tk_4 _ (List.mem_of_getElem? (i := 225) rfl)), rfl⟩
theorem kw_964 : Cond.selects RX9 yX9_shortenBy yX9_shortenBy ∈ gWS := List.mem_filter.mpr ⟨(List.mem_append_left _ (List.mem_of_getElem? (i := 29) rfl)), rfl⟩
theorem kw_965 : Cond.code yX9_shortenBy cX9_shortenBy 6 none ∈ gWS := List.mem_filter.mpr ⟨(tk_4 _ (List.mem_of_getElem? (i := 226) rfl)), rfl⟩
theorem kw_966 : Cond.methodLink RX11 224 yX9_shortestTime ∈ gWS := List.mem_filter.mpr ⟨(tk_4 _ (List.mem_of_getElem? (i := 228) rfl)), rfl⟩
theorem kw_967 : Cond.instanceMethod yX9_shortestTime ∈ gWS := List.mem_filter.mpr ⟨(tk_4 _ (List.mem_of_getElem? (i := 229) rfl)), rfl⟩
theorem kw_968 : Cond.selects RX9 yX9_shortestTime yX9_shortestTime ∈ gWS := List.mem_filter.mpr ⟨(tk_4 _ (List.mem_of_getElem? (i := 230) rfl)), rfl⟩
theorem kw_969 : Cond.code yX9_shortestTime cX9_shortestTime 4 (some .int) ∈ gWS := List.mem_filter.mpr ⟨(tk_4 _ (List.mem_of_getElem? (i := 231) rfl)), rfl⟩
theorem kw_970 : Cond.methodLink RX9 129 yX9_cell ∈ gWS := List.mem_filter.mpr ⟨(tk_4 _ (List.mem_of_getElem? (i := 232) rfl)), rfl⟩
theorem kw_971 : Cond.static yX9_cell ∈ gWS := List.mem_filter.mpr ⟨(tk_4 _ (List.mem_of_getElem? (i := 233) rfl)), rfl⟩
theorem kw_972 : Cond.code yX9_cell cX9_cell 2 (some .int) ∈ gWS := List.mem_filter.mpr ⟨(tk_4 _ (List.mem_of_getElem? (i := 234) rfl)), rfl⟩
theorem kw_973 : Cond.methodLink RX11 227 yX9_shortestVisits ∈ gWS := List.mem_filter.mpr ⟨(tk_4 _ (List.mem_of_getElem? (i := 235) rfl)), rfl⟩
theorem kw_974 : Cond.instanceMethod yX9_shortestVisits ∈ gWS := List.mem_filter.mpr ⟨(tk_4 _ (List.mem_of_getElem? (i := 236) rfl)), rfl⟩
theorem kw_975 : Cond.selects RX9 yX9_shortestVisits yX9_shortestVisits ∈ gWS := List.mem_filter.mpr ⟨(tk_4 _ (List.mem_of_getElem? (i := 237) rfl)), rfl⟩
theorem kw_976 : Cond.code yX9_shortestVisits cX9_shortestVisits 4 (some .int) ∈ gWS := List.mem_filter.mpr ⟨(tk_4 _ (List.mem_of_getElem? (i := 238) rfl)), rfl⟩
theorem kw_977 : Cond.methodLink RL 93 yX12_comes ∈ gWS := List.mem_filter.mpr ⟨(tk_8 _ (List.mem_of_getElem? (i := 32) rfl)), rfl⟩
theorem kw_978 : Cond.instanceMethod yX12_comes ∈ gWS := List.mem_filter.mpr ⟨(tk_8 _ (List.mem_of_getElem? (i := 33) rfl)), rfl⟩
theorem kw_979 : Cond.selects RX12 yX12_comes yX12_comes ∈ gWS := List.mem_filter.mpr ⟨(tk_8 _ (List.mem_of_getElem? (i := 34) rfl)), rfl⟩
theorem kw_980 : Cond.code yX12_comes cX12_comes 4 (some .int) ∈ gWS := List.mem_filter.mpr ⟨(tk_8 _ (List.mem_of_getElem? (i := 35) rfl)), rfl⟩
theorem kw_981 : Cond.methodLink RX12 336 yX12_come ∈ gWS := List.mem_filter.mpr ⟨(tk_8 _ (List.mem_of_getElem? (i := 36) rfl)), rfl⟩
theorem kw_982 : Cond.instanceMethod yX12_come ∈ gWS := List.mem_filter.mpr ⟨(tk_8 _ (List.mem_of_getElem? (i := 38) rfl)), rfl⟩
theorem kw_983 : Cond.selects RX12 yX12_come yX12_come ∈ gWS := List.mem_filter.mpr ⟨(List.mem_append_left _ (List.mem_of_getElem? (i := 94) rfl)), rfl⟩
theorem kw_984 : Cond.code yX12_come cX12_come 4 (some .boolean) ∈ gWS := List.mem_filter.mpr ⟨(tk_8 _ (List.mem_of_getElem? (i := 39) rfl)), rfl⟩
theorem kw_985 : Cond.methodLink RX12 333 yX12_reach ∈ gWS := List.mem_filter.mpr ⟨(tk_8 _ (List.mem_of_getElem? (i := 40) rfl)), rfl⟩
theorem kw_986 : Cond.instanceMethod yX12_reach ∈ gWS := List.mem_filter.mpr ⟨(tk_8 _ (List.mem_of_getElem? (i := 42) rfl)), rfl⟩
theorem kw_987 : Cond.selects RX12 yX12_reach yX12_reach ∈ gWS := List.mem_filter.mpr ⟨(List.mem_append_left _ (List.mem_of_getElem? (i := 95) rfl)), rfl⟩
theorem kw_988 : Cond.code yX12_reach cX12_reach 6 (some .int) ∈ gWS := List.mem_filter.mpr ⟨(tk_8 _ (List.mem_of_getElem? (i := 43) rfl)), rfl⟩
theorem kw_989 : Cond.methodLink RX12 330 yX12_nexts ∈ gWS := List.mem_filter.mpr ⟨(tk_8 _ (List.mem_of_getElem? (i := 44) rfl)), rfl⟩
theorem kw_990 : Cond.instanceMethod yX12_nexts ∈ gWS := List.mem_filter.mpr ⟨(tk_8 _ (List.mem_of_getElem? (i := 46) rfl)), rfl⟩
theorem kw_991 : Cond.selects RX12 yX12_nexts yX12_nexts ∈ gWS := List.mem_filter.mpr ⟨(List.mem_append_left _ (List.mem_of_getElem? (i := 96) rfl)), rfl⟩
theorem kw_992 : Cond.code yX12_nexts cX12_nexts 3 (some .int) ∈ gWS := List.mem_filter.mpr ⟨(tk_8 _ (List.mem_of_getElem? (i := 47) rfl)), rfl⟩
theorem kw_993 : Cond.fieldLink RX12 320 "CornerTownModel" "oneB" "I" ∈ gWS := List.mem_filter.mpr ⟨(tk_6 _ (List.mem_of_getElem? (i := 111) rfl)), rfl⟩
theorem kw_994 : Cond.fieldLink RX12 327 "CornerTownModel" "twoB" "I" ∈ gWS := List.mem_filter.mpr ⟨(tk_6 _ (List.mem_of_getElem? (i := 113) rfl)), rfl⟩
theorem kw_995 : Cond.methodLink RX12 323 yX12_withOr ∈ gWS := List.mem_filter.mpr ⟨(tk_8 _ (List.mem_of_getElem? (i := 48) rfl)), rfl⟩
theorem kw_996 : Cond.instanceMethod yX12_withOr ∈ gWS := List.mem_filter.mpr ⟨(tk_8 _ (List.mem_of_getElem? (i := 50) rfl)), rfl⟩
theorem kw_997 : Cond.selects RX12 yX12_withOr yX12_withOr ∈ gWS := List.mem_filter.mpr ⟨(List.mem_append_left _ (List.mem_of_getElem? (i := 97) rfl)), rfl⟩
theorem kw_998 : Cond.code yX12_withOr cX12_withOr 4 (some .int) ∈ gWS := List.mem_filter.mpr ⟨(tk_8 _ (List.mem_of_getElem? (i := 51) rfl)), rfl⟩
theorem kw_999 : Cond.methodLink RX12 339 yX12_countsWays ∈ gWS := List.mem_filter.mpr ⟨(tk_8 _ (List.mem_of_getElem? (i := 52) rfl)), rfl⟩
theorem kw_1000 : Cond.instanceMethod yX12_countsWays ∈ gWS := List.mem_filter.mpr ⟨(tk_8 _ (List.mem_of_getElem? (i := 54) rfl)), rfl⟩
theorem kw_1001 : Cond.selects RX12 yX12_countsWays yX12_countsWays ∈ gWS := List.mem_filter.mpr ⟨(List.mem_append_left _ (List.mem_of_getElem? (i := 98) rfl)), rfl⟩
theorem kw_1002 : Cond.code yX12_countsWays cX12_countsWays 5 none ∈ gWS := List.mem_filter.mpr ⟨(tk_8 _ (List.mem_of_getElem? (i := 55) rfl)), rfl⟩
theorem kw_1003 : Cond.methodLink RX12 342 yX12_distances ∈ gWS := List.mem_filter.mpr ⟨(tk_8 _ (List.mem_of_getElem? (i := 56) rfl)), rfl⟩
theorem kw_1004 : Cond.instanceMethod yX12_distances ∈ gWS := List.mem_filter.mpr ⟨(tk_8 _ (List.mem_of_getElem? (i := 58) rfl)), rfl⟩
theorem kw_1005 : Cond.selects RX12 yX12_distances yX12_distances ∈ gWS := List.mem_filter.mpr ⟨(List.mem_append_left _ (List.mem_of_getElem? (i := 99) rfl)), rfl⟩
theorem kw_1006 : Cond.code yX12_distances cX12_distances 6 none ∈ gWS := List.mem_filter.mpr ⟨(tk_8 _ (List.mem_of_getElem? (i := 59) rfl)), rfl⟩
theorem kw_1007 : Cond.methodLink RL 94 yX11_way ∈ gWS := List.mem_filter.mpr ⟨(tk_4 _ (List.mem_of_getElem? (i := 239) rfl)), rfl⟩
theorem kw_1008 : Cond.instanceMethod yX11_way ∈ gWS := List.mem_filter.mpr ⟨(tk_5 _ (List.mem_of_getElem? (i := 0) rfl)), rfl⟩
theorem kw_1009 : Cond.selects RX11 yX11_way yX11_way ∈ gWS := List.mem_filter.mpr ⟨(tk_5 _ (List.mem_of_getElem? (i := 1) rfl)), rfl⟩
theorem kw_1010 : Cond.code yX11_way cX11_way 4 (some .int) ∈ gWS := List.mem_filter.mpr ⟨(tk_5 _ (List.mem_of_getElem? (i := 2) rfl)), rfl⟩
theorem kw_1011 : Cond.methodLink RX11 230 yX9_stopOnWay ∈ gWS := List.mem_filter.mpr ⟨(tk_5 _ (List.mem_of_getElem? (i := 3) rfl)), rfl⟩
theorem kw_1012 : Cond.instanceMethod yX9_stopOnWay ∈ gWS := List.mem_filter.mpr ⟨(tk_5 _ (List.mem_of_getElem? (i := 4) rfl)), rfl⟩
theorem kw_1013 : Cond.selects RX9 yX9_stopOnWay yX9_stopOnWay ∈ gWS := List.mem_filter.mpr ⟨(tk_5 _ (List.mem_of_getElem? (i := 5) rfl)), rfl⟩
theorem kw_1014 : Cond.code yX9_stopOnWay cX9_stopOnWay 6 (some .int) ∈ gWS := List.mem_filter.mpr ⟨(tk_5 _ (List.mem_of_getElem? (i := 6) rfl)), rfl⟩
theorem kw_1015 : Cond.methodLink RX9 132 yX9_shortestVisits ∈ gWS := List.mem_filter.mpr ⟨(tk_5 _ (List.mem_of_getElem? (i := 7) rfl)), rfl⟩
theorem kw_1016 : Cond.methodLink RX9 135 yX9_nextOnWay ∈ gWS := List.mem_filter.mpr ⟨(tk_5 _ (List.mem_of_getElem? (i := 8) rfl)), rfl⟩
theorem kw_1017 : Cond.instanceMethod yX9_nextOnWay ∈ gWS := List.mem_filter.mpr ⟨(tk_5 _ (List.mem_of_getElem? (i := 10) rfl)), rfl⟩
theorem kw_1018 : Cond.selects RX9 yX9_nextOnWay yX9_nextOnWay ∈ gWS := List.mem_filter.mpr ⟨(List.mem_append_left _ (List.mem_of_getElem? (i := 30) rfl)), rfl⟩
theorem kw_1019 : Cond.code yX9_nextOnWay cX9_nextOnWay 5 (some .int) ∈ gWS := List.mem_filter.mpr ⟨(tk_5 _ (List.mem_of_getElem? (i := 11) rfl)), rfl⟩
theorem kw_1020 : Cond.methodLink RL 97 yX12_way ∈ gWS := List.mem_filter.mpr ⟨(tk_8 _ (List.mem_of_getElem? (i := 60) rfl)), rfl⟩
theorem kw_1021 : Cond.instanceMethod yX12_way ∈ gWS := List.mem_filter.mpr ⟨(tk_8 _ (List.mem_of_getElem? (i := 61) rfl)), rfl⟩
theorem kw_1022 : Cond.selects RX12 yX12_way yX12_way ∈ gWS := List.mem_filter.mpr ⟨(tk_8 _ (List.mem_of_getElem? (i := 62) rfl)), rfl⟩
theorem kw_1023 : Cond.code yX12_way cX12_way 8 (some .int) ∈ gWS := List.mem_filter.mpr ⟨(tk_8 _ (List.mem_of_getElem? (i := 63) rfl)), rfl⟩
theorem kw_1024 : Cond.methodLink RX12 345 yX12_comes ∈ gWS := List.mem_filter.mpr ⟨(tk_8 _ (List.mem_of_getElem? (i := 64) rfl)), rfl⟩
theorem kw_1025 : Cond.methodLink RL 98 yX11_parts ∈ gWS := List.mem_filter.mpr ⟨(tk_5 _ (List.mem_of_getElem? (i := 12) rfl)), rfl⟩
theorem kw_1026 : Cond.instanceMethod yX11_parts ∈ gWS := List.mem_filter.mpr ⟨(tk_5 _ (List.mem_of_getElem? (i := 13) rfl)), rfl⟩
theorem kw_1027 : Cond.selects RX11 yX11_parts yX11_parts ∈ gWS := List.mem_filter.mpr ⟨(tk_5 _ (List.mem_of_getElem? (i := 14) rfl)), rfl⟩
theorem kw_1028 : Cond.code yX11_parts cX11_parts 3 (some .int) ∈ gWS := List.mem_filter.mpr ⟨(tk_5 _ (List.mem_of_getElem? (i := 15) rfl)), rfl⟩
theorem kw_1029 : Cond.methodLink RX11 234 yX0_findParts ∈ gWS := List.mem_filter.mpr ⟨(tk_5 _ (List.mem_of_getElem? (i := 16) rfl)), rfl⟩
theorem kw_1030 : Cond.instanceMethod yX0_findParts ∈ gWS := List.mem_filter.mpr ⟨(tk_5 _ (List.mem_of_getElem? (i := 17) rfl)), rfl⟩
theorem kw_1031 : Cond.selects RX0 yX0_findParts yX0_findParts ∈ gWS := List.mem_filter.mpr ⟨(tk_5 _ (List.mem_of_getElem? (i := 18) rfl)), rfl⟩
theorem kw_1032 : Cond.code yX0_findParts cX0_findParts 6 (some .int) ∈ gWS := List.mem_filter.mpr ⟨(tk_5 _ (List.mem_of_getElem? (i := 19) rfl)), rfl⟩
theorem kw_1033 : Cond.methodLink RX0 65 yX0_reach ∈ gWS := List.mem_filter.mpr ⟨(tk_5 _ (List.mem_of_getElem? (i := 20) rfl)), rfl⟩
theorem kw_1034 : Cond.static yX0_reach ∈ gWS := List.mem_filter.mpr ⟨(tk_5 _ (List.mem_of_getElem? (i := 21) rfl)), rfl⟩
theorem kw_1035 : Cond.code yX0_reach cX0_reach 8 (some .int) ∈ gWS := List.mem_filter.mpr ⟨(tk_5 _ (List.mem_of_getElem? (i := 22) rfl)), rfl⟩
theorem kw_1036 : Cond.static yX11_lowestOf ∈ gWS := List.mem_filter.mpr ⟨(tk_5 _ (List.mem_of_getElem? (i := 24) rfl)), rfl⟩
theorem kw_1037 : Cond.code yX11_lowestOf cX11_lowestOf 1 (some .int) ∈ gWS := List.mem_filter.mpr ⟨(tk_5 _ (List.mem_of_getElem? (i := 25) rfl)), rfl⟩
theorem kw_1038 : Cond.methodLink RX11 254 yJ6_bitCount_0f7a4 ∈ gWS := List.mem_filter.mpr ⟨(tk_5 _ (List.mem_of_getElem? (i := 26) rfl)), rfl⟩
theorem kw_1039 : Cond.static yJ6_bitCount_0f7a4 ∈ gWS := List.mem_filter.mpr ⟨(tk_5 _ (List.mem_of_getElem? (i := 27) rfl)), rfl⟩
theorem kw_1040 : Cond.initialized RJ6 ∈ gWS := List.mem_filter.mpr ⟨(tk_1 _ (List.mem_of_getElem? (i := 21) rfl)), rfl⟩
theorem kw_1041 : Cond.code yJ6_bitCount_0f7a4 cJ6_bitCount_0f7a4 1 (some .int) ∈ gWS := List.mem_filter.mpr ⟨(tk_5 _ (List.mem_of_getElem? (i := 28) rfl)), rfl⟩
theorem kw_1042 : Cond.constant RJ6 265 (1431655765) ∈ gWS := List.mem_filter.mpr ⟨(tk_5 _ (List.mem_of_getElem? (i := 29) rfl)), rfl⟩
theorem kw_1043 : Cond.constant RJ6 266 (858993459) ∈ gWS := List.mem_filter.mpr ⟨(tk_5 _ (List.mem_of_getElem? (i := 30) rfl)), rfl⟩
theorem kw_1044 : Cond.constant RJ6 267 (252645135) ∈ gWS := List.mem_filter.mpr ⟨(tk_5 _ (List.mem_of_getElem? (i := 31) rfl)), rfl⟩
theorem kw_1045 : Cond.methodLink RX0 68 yX0_partOf ∈ gWS := List.mem_filter.mpr ⟨(tk_5 _ (List.mem_of_getElem? (i := 32) rfl)), rfl⟩
theorem kw_1046 : Cond.instanceMethod yX0_partOf ∈ gWS := List.mem_filter.mpr ⟨(tk_5 _ (List.mem_of_getElem? (i := 34) rfl)), rfl⟩
theorem kw_1047 : Cond.selects RX0 yX0_partOf yX0_partOf ∈ gWS := List.mem_filter.mpr ⟨(List.mem_append_left _ (List.mem_of_getElem? (i := 31) rfl)), rfl⟩
theorem kw_1048 : Cond.code yX0_partOf cX0_partOf 4 (some .int) ∈ gWS := List.mem_filter.mpr ⟨(tk_5 _ (List.mem_of_getElem? (i := 35) rfl)), rfl⟩
theorem kw_1049 : Cond.methodLink RX11 238 yX0_partAt ∈ gWS := List.mem_filter.mpr ⟨(tk_5 _ (List.mem_of_getElem? (i := 36) rfl)), rfl⟩
theorem kw_1050 : Cond.instanceMethod yX0_partAt ∈ gWS := List.mem_filter.mpr ⟨(tk_5 _ (List.mem_of_getElem? (i := 37) rfl)), rfl⟩
theorem kw_1051 : Cond.selects RX0 yX0_partAt yX0_partAt ∈ gWS := List.mem_filter.mpr ⟨(tk_5 _ (List.mem_of_getElem? (i := 38) rfl)), rfl⟩
theorem kw_1052 : Cond.code yX0_partAt cX0_partAt 2 (some .int) ∈ gWS := List.mem_filter.mpr ⟨(tk_5 _ (List.mem_of_getElem? (i := 39) rfl)), rfl⟩
theorem kw_1053 : Cond.methodLink RL 101 yX12_parts ∈ gWS := List.mem_filter.mpr ⟨(tk_8 _ (List.mem_of_getElem? (i := 65) rfl)), rfl⟩
theorem kw_1054 : Cond.instanceMethod yX12_parts ∈ gWS := List.mem_filter.mpr ⟨(tk_8 _ (List.mem_of_getElem? (i := 66) rfl)), rfl⟩
theorem kw_1055 : Cond.selects RX12 yX12_parts yX12_parts ∈ gWS := List.mem_filter.mpr ⟨(tk_8 _ (List.mem_of_getElem? (i := 67) rfl)), rfl⟩
theorem kw_1056 : Cond.code yX12_parts cX12_parts 2 (some .int) ∈ gWS := List.mem_filter.mpr ⟨(tk_8 _ (List.mem_of_getElem? (i := 68) rfl)), rfl⟩
theorem kw_1057 : Cond.fieldLink RX12 348 "CornerTownModel" "partMany" "I" ∈ gWS := List.mem_filter.mpr ⟨(tk_6 _ (List.mem_of_getElem? (i := 119) rfl)), rfl⟩
theorem kw_1058 : Cond.methodLink RX12 354 yX12_partsOf ∈ gWS := List.mem_filter.mpr ⟨(tk_8 _ (List.mem_of_getElem? (i := 69) rfl)), rfl⟩
theorem kw_1059 : Cond.instanceMethod yX12_partsOf ∈ gWS := List.mem_filter.mpr ⟨(tk_8 _ (List.mem_of_getElem? (i := 71) rfl)), rfl⟩
theorem kw_1060 : Cond.selects RX12 yX12_partsOf yX12_partsOf ∈ gWS := List.mem_filter.mpr ⟨(List.mem_append_left _ (List.mem_of_getElem? (i := 100) rfl)), rfl⟩
theorem kw_1061 : Cond.code yX12_partsOf cX12_partsOf 7 none ∈ gWS := List.mem_filter.mpr ⟨(tk_8 _ (List.mem_of_getElem? (i := 72) rfl)), rfl⟩
theorem kw_1062 : Cond.methodLink RX12 351 yX12_standing ∈ gWS := List.mem_filter.mpr ⟨(tk_8 _ (List.mem_of_getElem? (i := 73) rfl)), rfl⟩
theorem kw_1063 : Cond.instanceMethod yX12_standing ∈ gWS := List.mem_filter.mpr ⟨(tk_8 _ (List.mem_of_getElem? (i := 75) rfl)), rfl⟩
theorem kw_1064 : Cond.selects RX12 yX12_standing yX12_standing ∈ gWS := List.mem_filter.mpr ⟨(List.mem_append_left _ (List.mem_of_getElem? (i := 101) rfl)), rfl⟩
theorem kw_1065 : Cond.code yX12_standing cX12_standing 3 (some .int) ∈ gWS := List.mem_filter.mpr ⟨(tk_8 _ (List.mem_of_getElem? (i := 76) rfl)), rfl⟩
theorem kw_1066 : Cond.methodLink RL 102 yX11_holders ∈ gWS := List.mem_filter.mpr ⟨(tk_5 _ (List.mem_of_getElem? (i := 40) rfl)), rfl⟩
theorem kw_1067 : Cond.instanceMethod yX11_holders ∈ gWS := List.mem_filter.mpr ⟨(tk_5 _ (List.mem_of_getElem? (i := 41) rfl)), rfl⟩
theorem kw_1068 : Cond.selects RX11 yX11_holders yX11_holders ∈ gWS := List.mem_filter.mpr ⟨(tk_5 _ (List.mem_of_getElem? (i := 42) rfl)), rfl⟩
theorem kw_1069 : Cond.code yX11_holders cX11_holders 3 (some .int) ∈ gWS := List.mem_filter.mpr ⟨(tk_5 _ (List.mem_of_getElem? (i := 43) rfl)), rfl⟩
theorem kw_1070 : Cond.methodLink RX11 241 yX0_holdersBetween ∈ gWS := List.mem_filter.mpr ⟨(tk_5 _ (List.mem_of_getElem? (i := 44) rfl)), rfl⟩
theorem kw_1071 : Cond.instanceMethod yX0_holdersBetween ∈ gWS := List.mem_filter.mpr ⟨(tk_5 _ (List.mem_of_getElem? (i := 45) rfl)), rfl⟩
theorem kw_1072 : Cond.selects RX0 yX0_holdersBetween yX0_holdersBetween ∈ gWS := List.mem_filter.mpr ⟨(tk_5 _ (List.mem_of_getElem? (i := 46) rfl)), rfl⟩
theorem kw_1073 : Cond.code yX0_holdersBetween cX0_holdersBetween 6 (some .int) ∈ gWS := List.mem_filter.mpr ⟨(tk_5 _ (List.mem_of_getElem? (i := 47) rfl)), rfl⟩
theorem kw_1074 : Cond.fieldLink RX0 75 "CornerTown$Town" "houses" "I" ∈ gWS := List.mem_filter.mpr ⟨(tk_1 _ (List.mem_of_getElem? (i := 85) rfl)), rfl⟩
theorem kw_1075 : Cond.methodLink RX0 71 yX0_meets ∈ gWS := List.mem_filter.mpr ⟨(tk_5 _ (List.mem_of_getElem? (i := 48) rfl)), rfl⟩
theorem kw_1076 : Cond.static yX0_meets ∈ gWS := List.mem_filter.mpr ⟨(tk_5 _ (List.mem_of_getElem? (i := 49) rfl)), rfl⟩
theorem kw_1077 : Cond.code yX0_meets cX0_meets 4 (some .boolean) ∈ gWS := List.mem_filter.mpr ⟨(tk_5 _ (List.mem_of_getElem? (i := 50) rfl)), rfl⟩
theorem kw_1078 : Cond.methodLink RL 105 yX12_holders ∈ gWS := List.mem_filter.mpr ⟨(tk_8 _ (List.mem_of_getElem? (i := 77) rfl)), rfl⟩
theorem kw_1079 : Cond.instanceMethod yX12_holders ∈ gWS := List.mem_filter.mpr ⟨(tk_8 _ (List.mem_of_getElem? (i := 78) rfl)), rfl⟩
theorem kw_1080 : Cond.selects RX12 yX12_holders yX12_holders ∈ gWS := List.mem_filter.mpr ⟨(tk_8 _ (List.mem_of_getElem? (i := 79) rfl)), rfl⟩
theorem kw_1081 : Cond.code yX12_holders cX12_holders 5 (some .int) ∈ gWS := List.mem_filter.mpr ⟨(tk_8 _ (List.mem_of_getElem? (i := 80) rfl)), rfl⟩
theorem kw_1082 : Cond.methodLink RL 106 yX11_cut ∈ gWS := List.mem_filter.mpr ⟨(tk_5 _ (List.mem_of_getElem? (i := 51) rfl)), rfl⟩
theorem kw_1083 : Cond.instanceMethod yX11_cut ∈ gWS := List.mem_filter.mpr ⟨(tk_5 _ (List.mem_of_getElem? (i := 52) rfl)), rfl⟩
theorem kw_1084 : Cond.selects RX11 yX11_cut yX11_cut ∈ gWS := List.mem_filter.mpr ⟨(tk_5 _ (List.mem_of_getElem? (i := 53) rfl)), rfl⟩
theorem kw_1085 : Cond.code yX11_cut cX11_cut 4 (some .int) ∈ gWS := List.mem_filter.mpr ⟨(tk_5 _ (List.mem_of_getElem? (i := 54) rfl)), rfl⟩
theorem kw_1086 : Cond.fieldLink RX11 248 "CornerTown$Crossings" "cutWays" "I" ∈ gWS := List.mem_filter.mpr ⟨(tk_2 _ (List.mem_of_getElem? (i := 44) rfl)), rfl⟩
theorem kw_1087 : Cond.fieldLink RX11 251 "CornerTown$Crossings" "cutBits" "I" ∈ gWS := List.mem_filter.mpr ⟨(tk_2 _ (List.mem_of_getElem? (i := 42) rfl)), rfl⟩
theorem kw_1088 : Cond.methodLink RX11 245 yX0_findCut ∈ gWS := List.mem_filter.mpr ⟨(tk_5 _ (List.mem_of_getElem? (i := 55) rfl)), rfl⟩
theorem kw_1089 : Cond.instanceMethod yX0_findCut ∈ gWS := List.mem_filter.mpr ⟨(tk_5 _ (List.mem_of_getElem? (i := 56) rfl)), rfl⟩
theorem kw_1090 : Cond.selects RX0 yX0_findCut yX0_findCut ∈ gWS := List.mem_filter.mpr ⟨(tk_5 _ (List.mem_of_getElem? (i := 57) rfl)), rfl⟩
theorem kw_1091 : Cond.code yX0_findCut cX0_findCut 9 none ∈ gWS := List.mem_filter.mpr ⟨(tk_5 _ (List.mem_of_getElem? (i := 58) rfl)), rfl⟩
theorem kw_1092 : Cond.methodLink RX0 78 yJ6_bitCount_0f7a4 ∈ gWS := List.mem_filter.mpr ⟨(tk_5 _ (List.mem_of_getElem? (i := 59) rfl)), rfl⟩
theorem kw_1093 : Cond.methodLink RL 109 yX12_cut ∈ gWS := List.mem_filter.mpr ⟨(tk_8 _ (List.mem_of_getElem? (i := 81) rfl)), rfl⟩
theorem kw_1094 : Cond.instanceMethod yX12_cut ∈ gWS := List.mem_filter.mpr ⟨(tk_8 _ (List.mem_of_getElem? (i := 82) rfl)), rfl⟩
theorem kw_1095 : Cond.selects RX12 yX12_cut yX12_cut ∈ gWS := List.mem_filter.mpr ⟨(tk_8 _ (List.mem_of_getElem? (i := 83) rfl)), rfl⟩
theorem kw_1096 : Cond.code yX12_cut cX12_cut 9 (some .int) ∈ gWS := List.mem_filter.mpr ⟨(tk_8 _ (List.mem_of_getElem? (i := 84) rfl)), rfl⟩
theorem kw_1097 : Cond.methodLink RX12 357 yX12_ones ∈ gWS := List.mem_filter.mpr ⟨(tk_8 _ (List.mem_of_getElem? (i := 85) rfl)), rfl⟩
theorem kw_1098 : Cond.static yX12_ones ∈ gWS := List.mem_filter.mpr ⟨(tk_8 _ (List.mem_of_getElem? (i := 86) rfl)), rfl⟩
theorem kw_1099 : Cond.code yX12_ones cX12_ones 3 (some .int) ∈ gWS := List.mem_filter.mpr ⟨(tk_8 _ (List.mem_of_getElem? (i := 87) rfl)), rfl⟩
theorem kw_1100 : Cond.methodLink RL 110 yX11_wish ∈ gWS := List.mem_filter.mpr ⟨(tk_5 _ (List.mem_of_getElem? (i := 60) rfl)), rfl⟩
theorem kw_1101 : Cond.instanceMethod yX11_wish ∈ gWS := List.mem_filter.mpr ⟨(tk_5 _ (List.mem_of_getElem? (i := 61) rfl)), rfl⟩
theorem kw_1102 : Cond.selects RX11 yX11_wish yX11_wish ∈ gWS := List.mem_filter.mpr ⟨(tk_5 _ (List.mem_of_getElem? (i := 62) rfl)), rfl⟩
theorem kw_1103 : Cond.code yX11_wish cX11_wish 4 (some .int) ∈ gWS := List.mem_filter.mpr ⟨(tk_5 _ (List.mem_of_getElem? (i := 63) rfl)), rfl⟩
theorem kw_1104 : Cond.fieldLink RX11 259 "CornerTown$Town" "wishes" "LCornerTown$Pairs;" ∈ gWS := List.mem_filter.mpr ⟨(tk_1 _ (List.mem_of_getElem? (i := 116) rfl)), rfl⟩
theorem kw_1105 : Cond.fieldLink RX11 263 "CornerTown$Town" "bans" "LCornerTown$Pairs;" ∈ gWS := List.mem_filter.mpr ⟨(tk_1 _ (List.mem_of_getElem? (i := 119) rfl)), rfl⟩
theorem kw_1106 : Cond.methodLink RX11 266 yX11_keepPair ∈ gWS := List.mem_filter.mpr ⟨(tk_5 _ (List.mem_of_getElem? (i := 64) rfl)), rfl⟩
theorem kw_1107 : Cond.instanceMethod yX11_keepPair ∈ gWS := List.mem_filter.mpr ⟨(tk_5 _ (List.mem_of_getElem? (i := 66) rfl)), rfl⟩
theorem kw_1108 : Cond.selects RX11 yX11_keepPair yX11_keepPair ∈ gWS := List.mem_filter.mpr ⟨(List.mem_append_left _ (List.mem_of_getElem? (i := 32) rfl)), rfl⟩
theorem kw_1109 : Cond.code yX11_keepPair cX11_keepPair 4 (some .int) ∈ gWS := List.mem_filter.mpr ⟨(tk_5 _ (List.mem_of_getElem? (i := 67) rfl)), rfl⟩
theorem kw_1110 : Cond.fieldLink RX11 270 "CornerTown$Pairs" "size" "I" ∈ gWS := List.mem_filter.mpr ⟨(tk_1 _ (List.mem_of_getElem? (i := 56) rfl)), rfl⟩
theorem kw_1111 : Cond.methodLink RX11 351 yX5_isFull ∈ gWS := List.mem_filter.mpr ⟨(tk_5 _ (List.mem_of_getElem? (i := 68) rfl)), rfl⟩
theorem kw_1112 : Cond.instanceMethod yX5_isFull ∈ gWS := List.mem_filter.mpr ⟨(tk_5 _ (List.mem_of_getElem? (i := 69) rfl)), rfl⟩
theorem kw_1113 : Cond.selects RX5 yX5_isFull yX5_isFull ∈ gWS := List.mem_filter.mpr ⟨(tk_5 _ (List.mem_of_getElem? (i := 70) rfl)), rfl⟩
theorem kw_1114 : Cond.code yX5_isFull cX5_isFull 1 (some .boolean) ∈ gWS := List.mem_filter.mpr ⟨(tk_5 _ (List.mem_of_getElem? (i := 71) rfl)), rfl⟩
theorem kw_1115 : Cond.methodLink RX11 355 yX5_keep ∈ gWS := List.mem_filter.mpr ⟨(tk_5 _ (List.mem_of_getElem? (i := 72) rfl)), rfl⟩
theorem kw_1116 : Cond.instanceMethod yX5_keep ∈ gWS := List.mem_filter.mpr ⟨(tk_5 _ (List.mem_of_getElem? (i := 73) rfl)), rfl⟩
theorem kw_1117 : Cond.selects RX5 yX5_keep yX5_keep ∈ gWS := List.mem_filter.mpr ⟨(tk_5 _ (List.mem_of_getElem? (i := 74) rfl)), rfl⟩
theorem kw_1118 : Cond.code yX5_keep cX5_keep 3 none ∈ gWS := List.mem_filter.mpr ⟨(tk_5 _ (List.mem_of_getElem? (i := 75) rfl)), rfl⟩
theorem kw_1119 : Cond.methodLink RL 113 yX12_wish ∈ gWS := List.mem_filter.mpr ⟨(tk_8 _ (List.mem_of_getElem? (i := 88) rfl)), rfl⟩
theorem kw_1120 : Cond.instanceMethod yX12_wish ∈ gWS := List.mem_filter.mpr ⟨(tk_8 _ (List.mem_of_getElem? (i := 89) rfl)), rfl⟩
theorem kw_1121 : Cond.selects RX12 yX12_wish yX12_wish ∈ gWS := List.mem_filter.mpr ⟨(tk_8 _ (List.mem_of_getElem? (i := 90) rfl)), rfl⟩
theorem kw_1122 : Cond.code yX12_wish cX12_wish 6 (some .int) ∈ gWS := List.mem_filter.mpr ⟨(tk_8 _ (List.mem_of_getElem? (i := 91) rfl)), rfl⟩
theorem kw_1123 : Cond.methodLink RL 114 yX11_clear ∈ gWS := List.mem_filter.mpr ⟨(tk_5 _ (List.mem_of_getElem? (i := 76) rfl)), rfl⟩
theorem kw_1124 : Cond.instanceMethod yX11_clear ∈ gWS := List.mem_filter.mpr ⟨(tk_5 _ (List.mem_of_getElem? (i := 77) rfl)), rfl⟩
theorem kw_1125 : Cond.selects RX11 yX11_clear yX11_clear ∈ gWS := List.mem_filter.mpr ⟨(tk_5 _ (List.mem_of_getElem? (i := 78) rfl)), rfl⟩
theorem kw_1126 : Cond.code yX11_clear cX11_clear 2 (some .int) ∈ gWS := List.mem_filter.mpr ⟨(tk_5 _ (List.mem_of_getElem? (i := 79) rfl)), rfl⟩
theorem kw_1127 : Cond.methodLink RL 117 yX12_clear ∈ gWS := List.mem_filter.mpr ⟨(tk_8 _ (List.mem_of_getElem? (i := 92) rfl)), rfl⟩
theorem kw_1128 : Cond.instanceMethod yX12_clear ∈ gWS := List.mem_filter.mpr ⟨(tk_8 _ (List.mem_of_getElem? (i := 93) rfl)), rfl⟩
theorem kw_1129 : Cond.selects RX12 yX12_clear yX12_clear ∈ gWS := List.mem_filter.mpr ⟨(tk_8 _ (List.mem_of_getElem? (i := 94) rfl)), rfl⟩
theorem kw_1130 : Cond.code yX12_clear cX12_clear 2 (some .int) ∈ gWS := List.mem_filter.mpr ⟨(tk_8 _ (List.mem_of_getElem? (i := 95) rfl)), rfl⟩
theorem kw_1131 : Cond.methodLink RL 118 yX11_doors ∈ gWS := List.mem_filter.mpr ⟨(tk_5 _ (List.mem_of_getElem? (i := 80) rfl)), rfl⟩
theorem kw_1132 : Cond.instanceMethod yX11_doors ∈ gWS := List.mem_filter.mpr ⟨(tk_5 _ (List.mem_of_getElem? (i := 81) rfl)), rfl⟩
theorem kw_1133 : Cond.selects RX11 yX11_doors yX11_doors ∈ gWS := List.mem_filter.mpr ⟨(tk_5 _ (List.mem_of_getElem? (i := 82) rfl)), rfl⟩
theorem kw_1134 : Cond.code yX11_doors cX11_doors 2 (some .int) ∈ gWS := List.mem_filter.mpr ⟨(tk_5 _ (List.mem_of_getElem? (i := 83) rfl)), rfl⟩
theorem kw_1135 : Cond.fieldLink RX11 282 "CornerTown$DoorSearch" "needed" "I" ∈ gWS := List.mem_filter.mpr ⟨(tk_2 _ (List.mem_of_getElem? (i := 76) rfl)), rfl⟩
theorem kw_1136 : Cond.fieldLink RX11 285 "CornerTown$DoorSearch" "ways" "I" ∈ gWS := List.mem_filter.mpr ⟨(tk_2 _ (List.mem_of_getElem? (i := 78) rfl)), rfl⟩
theorem kw_1137 : Cond.methodLink RX11 275 yX9_rowsByDoor ∈ gWS := List.mem_filter.mpr ⟨(tk_5 _ (List.mem_of_getElem? (i := 84) rfl)), rfl⟩
theorem kw_1138 : Cond.instanceMethod yX9_rowsByDoor ∈ gWS := List.mem_filter.mpr ⟨(tk_5 _ (List.mem_of_getElem? (i := 85) rfl)), rfl⟩
theorem kw_1139 : Cond.selects RX9 yX9_rowsByDoor yX9_rowsByDoor ∈ gWS := List.mem_filter.mpr ⟨(tk_5 _ (List.mem_of_getElem? (i := 86) rfl)), rfl⟩
theorem kw_1140 : Cond.code yX9_rowsByDoor cX9_rowsByDoor 2 (some (.array .int)) ∈ gWS := List.mem_filter.mpr ⟨(tk_5 _ (List.mem_of_getElem? (i := 87) rfl)), rfl⟩
theorem kw_1141 : Cond.methodLink RX9 105 yX9_rowByDoor ∈ gWS := List.mem_filter.mpr ⟨(tk_5 _ (List.mem_of_getElem? (i := 88) rfl)), rfl⟩
theorem kw_1142 : Cond.instanceMethod yX9_rowByDoor ∈ gWS := List.mem_filter.mpr ⟨(tk_5 _ (List.mem_of_getElem? (i := 90) rfl)), rfl⟩
theorem kw_1143 : Cond.selects RX9 yX9_rowByDoor yX9_rowByDoor ∈ gWS := List.mem_filter.mpr ⟨(List.mem_append_left _ (List.mem_of_getElem? (i := 33) rfl)), rfl⟩
theorem kw_1144 : Cond.code yX9_rowByDoor cX9_rowByDoor 5 (some .int) ∈ gWS := List.mem_filter.mpr ⟨(tk_5 _ (List.mem_of_getElem? (i := 91) rfl)), rfl⟩
theorem kw_1145 : Cond.methodLink RX11 278 yX1_search ∈ gWS := List.mem_filter.mpr ⟨(tk_5 _ (List.mem_of_getElem? (i := 92) rfl)), rfl⟩
theorem kw_1146 : Cond.instanceMethod yX1_search ∈ gWS := List.mem_filter.mpr ⟨(tk_5 _ (List.mem_of_getElem? (i := 93) rfl)), rfl⟩
theorem kw_1147 : Cond.selects RX1 yX1_search yX1_search ∈ gWS := List.mem_filter.mpr ⟨(tk_5 _ (List.mem_of_getElem? (i := 94) rfl)), rfl⟩
theorem kw_1148 : Cond.code yX1_search cX1_search 4 none ∈ gWS := List.mem_filter.mpr ⟨(tk_5 _ (List.mem_of_getElem? (i := 95) rfl)), rfl⟩
theorem kw_1149 : Cond.fieldLink RX1 41 "CornerTown$Town" "changes" "I" ∈ gWS := List.mem_filter.mpr ⟨(tk_1 _ (List.mem_of_getElem? (i := 124) rfl)), rfl⟩
theorem kw_1150 : Cond.methodLink RX1 46 arraycopyName ∈ gWS := List.mem_filter.mpr ⟨(tk_5 _ (List.mem_of_getElem? (i := 96) rfl)), rfl⟩
theorem kw_1151 : Cond.methodLink RX1 52 yX1_allMeet ∈ gWS := List.mem_filter.mpr ⟨(tk_5 _ (List.mem_of_getElem? (i := 97) rfl)), rfl⟩
theorem kw_1152 : Cond.instanceMethod yX1_allMeet ∈ gWS := List.mem_filter.mpr ⟨(tk_5 _ (List.mem_of_getElem? (i := 99) rfl)), rfl⟩
theorem kw_1153 : Cond.selects RX1 yX1_allMeet yX1_allMeet ∈ gWS := List.mem_filter.mpr ⟨(List.mem_append_left _ (List.mem_of_getElem? (i := 34) rfl)), rfl⟩
theorem kw_1154 : Cond.code yX1_allMeet cX1_allMeet 1 (some .boolean) ∈ gWS := List.mem_filter.mpr ⟨(tk_5 _ (List.mem_of_getElem? (i := 100) rfl)), rfl⟩
theorem kw_1155 : Cond.fieldLink RX1 91 "CornerTown$Town" "wishes" "LCornerTown$Pairs;" ∈ gWS := List.mem_filter.mpr ⟨(tk_1 _ (List.mem_of_getElem? (i := 115) rfl)), rfl⟩
theorem kw_1156 : Cond.fieldLink RX1 99 "CornerTown$Town" "bans" "LCornerTown$Pairs;" ∈ gWS := List.mem_filter.mpr ⟨(tk_1 _ (List.mem_of_getElem? (i := 118) rfl)), rfl⟩
theorem kw_1157 : Cond.methodLink RX1 95 yX1_allAre ∈ gWS := List.mem_filter.mpr ⟨(tk_5 _ (List.mem_of_getElem? (i := 101) rfl)), rfl⟩
theorem kw_1158 : Cond.instanceMethod yX1_allAre ∈ gWS := List.mem_filter.mpr ⟨(tk_5 _ (List.mem_of_getElem? (i := 103) rfl)), rfl⟩
theorem kw_1159 : Cond.selects RX1 yX1_allAre yX1_allAre ∈ gWS := List.mem_filter.mpr ⟨(List.mem_append_left _ (List.mem_of_getElem? (i := 35) rfl)), rfl⟩
theorem kw_1160 : Cond.code yX1_allAre cX1_allAre 5 (some .boolean) ∈ gWS := List.mem_filter.mpr ⟨(tk_5 _ (List.mem_of_getElem? (i := 104) rfl)), rfl⟩
theorem kw_1161 : Cond.fieldLink RX1 102 "CornerTown$Pairs" "size" "I" ∈ gWS := List.mem_filter.mpr ⟨(tk_1 _ (List.mem_of_getElem? (i := 55) rfl)), rfl⟩
theorem kw_1162 : Cond.fieldLink RX1 107 "CornerTown$Pairs" "first" "[I" ∈ gWS := List.mem_filter.mpr ⟨(tk_1 _ (List.mem_of_getElem? (i := 49) rfl)), rfl⟩
theorem kw_1163 : Cond.fieldLink RX1 110 "CornerTown$Town" "standing" "I" ∈ gWS := List.mem_filter.mpr ⟨(tk_1 _ (List.mem_of_getElem? (i := 92) rfl)), rfl⟩
theorem kw_1164 : Cond.fieldLink RX1 117 "CornerTown$Pairs" "second" "[I" ∈ gWS := List.mem_filter.mpr ⟨(tk_1 _ (List.mem_of_getElem? (i := 52) rfl)), rfl⟩
theorem kw_1165 : Cond.methodLink RX1 113 yX0_reach ∈ gWS := List.mem_filter.mpr ⟨(tk_5 _ (List.mem_of_getElem? (i := 105) rfl)), rfl⟩
theorem kw_1166 : Cond.methodLink RX1 56 yX1_listPairs ∈ gWS := List.mem_filter.mpr ⟨(tk_5 _ (List.mem_of_getElem? (i := 107) rfl)), rfl⟩
theorem kw_1167 : Cond.instanceMethod yX1_listPairs ∈ gWS := List.mem_filter.mpr ⟨(tk_5 _ (List.mem_of_getElem? (i := 109) rfl)), rfl⟩
theorem kw_1168 : Cond.selects RX1 yX1_listPairs yX1_listPairs ∈ gWS := List.mem_filter.mpr ⟨(List.mem_append_left _ (List.mem_of_getElem? (i := 36) rfl)), rfl⟩
theorem kw_1169 : Cond.code yX1_listPairs cX1_listPairs 6 none ∈ gWS := List.mem_filter.mpr ⟨(tk_5 _ (List.mem_of_getElem? (i := 110) rfl)), rfl⟩
theorem kw_1170 : Cond.fieldLink RX1 73 "CornerTown$Town" "houses" "I" ∈ gWS := List.mem_filter.mpr ⟨(tk_1 _ (List.mem_of_getElem? (i := 80) rfl)), rfl⟩
theorem kw_1171 : Cond.fieldLink RX1 80 "CornerTown$Town" "doorRows" "[I" ∈ gWS := List.mem_filter.mpr ⟨(tk_1 _ (List.mem_of_getElem? (i := 96) rfl)), rfl⟩
theorem kw_1172 : Cond.methodLink RX1 60 yX1_tryOne ∈ gWS := List.mem_filter.mpr ⟨(tk_5 _ (List.mem_of_getElem? (i := 111) rfl)), rfl⟩
theorem kw_1173 : Cond.instanceMethod yX1_tryOne ∈ gWS := List.mem_filter.mpr ⟨(tk_5 _ (List.mem_of_getElem? (i := 113) rfl)), rfl⟩
theorem kw_1174 : Cond.selects RX1 yX1_tryOne yX1_tryOne ∈ gWS := List.mem_filter.mpr ⟨(List.mem_append_left _ (List.mem_of_getElem? (i := 37) rfl)), rfl⟩
theorem kw_1175 : Cond.code yX1_tryOne cX1_tryOne 4 none ∈ gWS := List.mem_filter.mpr ⟨(tk_5 _ (List.mem_of_getElem? (i := 114) rfl)), rfl⟩
theorem kw_1176 : Cond.methodLink RX1 63 yX0_putPair ∈ gWS := List.mem_filter.mpr ⟨(tk_5 _ (List.mem_of_getElem? (i := 115) rfl)), rfl⟩
theorem kw_1177 : Cond.static yX0_putPair ∈ gWS := List.mem_filter.mpr ⟨(tk_5 _ (List.mem_of_getElem? (i := 116) rfl)), rfl⟩
theorem kw_1178 : Cond.code yX0_putPair cX0_putPair 6 none ∈ gWS := List.mem_filter.mpr ⟨(tk_5 _ (List.mem_of_getElem? (i := 117) rfl)), rfl⟩
theorem kw_1179 : Cond.methodLink RX1 83 yX1_keepFirst ∈ gWS := List.mem_filter.mpr ⟨(tk_5 _ (List.mem_of_getElem? (i := 118) rfl)), rfl⟩
theorem kw_1180 : Cond.instanceMethod yX1_keepFirst ∈ gWS := List.mem_filter.mpr ⟨(tk_5 _ (List.mem_of_getElem? (i := 120) rfl)), rfl⟩
theorem kw_1181 : Cond.selects RX1 yX1_keepFirst yX1_keepFirst ∈ gWS := List.mem_filter.mpr ⟨(List.mem_append_left _ (List.mem_of_getElem? (i := 38) rfl)), rfl⟩
theorem kw_1182 : Cond.code yX1_keepFirst cX1_keepFirst 4 none ∈ gWS := List.mem_filter.mpr ⟨(tk_5 _ (List.mem_of_getElem? (i := 121) rfl)), rfl⟩
theorem kw_1183 : Cond.methodLink RX1 69 yX1_tryTwo ∈ gWS := List.mem_filter.mpr ⟨(tk_5 _ (List.mem_of_getElem? (i := 123) rfl)), rfl⟩
theorem kw_1184 : Cond.instanceMethod yX1_tryTwo ∈ gWS := List.mem_filter.mpr ⟨(tk_5 _ (List.mem_of_getElem? (i := 125) rfl)), rfl⟩
theorem kw_1185 : Cond.selects RX1 yX1_tryTwo yX1_tryTwo ∈ gWS := List.mem_filter.mpr ⟨(List.mem_append_left _ (List.mem_of_getElem? (i := 39) rfl)), rfl⟩
theorem kw_1186 : Cond.code yX1_tryTwo cX1_tryTwo 5 none ∈ gWS := List.mem_filter.mpr ⟨(tk_5 _ (List.mem_of_getElem? (i := 126) rfl)), rfl⟩
theorem kw_1187 : Cond.methodLink RX11 288 yX1_pickedHouse ∈ gWS := List.mem_filter.mpr ⟨(tk_5 _ (List.mem_of_getElem? (i := 127) rfl)), rfl⟩
theorem kw_1188 : Cond.instanceMethod yX1_pickedHouse ∈ gWS := List.mem_filter.mpr ⟨(tk_5 _ (List.mem_of_getElem? (i := 128) rfl)), rfl⟩
theorem kw_1189 : Cond.selects RX1 yX1_pickedHouse yX1_pickedHouse ∈ gWS := List.mem_filter.mpr ⟨(tk_5 _ (List.mem_of_getElem? (i := 129) rfl)), rfl⟩
theorem kw_1190 : Cond.code yX1_pickedHouse cX1_pickedHouse 2 (some .int) ∈ gWS := List.mem_filter.mpr ⟨(tk_5 _ (List.mem_of_getElem? (i := 130) rfl)), rfl⟩
theorem kw_1191 : Cond.methodLink RL 121 yX12_doors ∈ gWS := List.mem_filter.mpr ⟨(tk_8 _ (List.mem_of_getElem? (i := 96) rfl)), rfl⟩
theorem kw_1192 : Cond.instanceMethod yX12_doors ∈ gWS := List.mem_filter.mpr ⟨(tk_8 _ (List.mem_of_getElem? (i := 97) rfl)), rfl⟩
theorem kw_1193 : Cond.selects RX12 yX12_doors yX12_doors ∈ gWS := List.mem_filter.mpr ⟨(tk_8 _ (List.mem_of_getElem? (i := 98) rfl)), rfl⟩
theorem kw_1194 : Cond.code yX12_doors cX12_doors 2 (some .int) ∈ gWS := List.mem_filter.mpr ⟨(tk_8 _ (List.mem_of_getElem? (i := 99) rfl)), rfl⟩
theorem kw_1195 : Cond.fieldLink RX12 366 "CornerTownModel" "doorSize" "I" ∈ gWS := List.mem_filter.mpr ⟨(tk_6 _ (List.mem_of_getElem? (i := 121) rfl)), rfl⟩
theorem kw_1196 : Cond.fieldLink RX12 363 "CornerTownModel" "doorWays" "I" ∈ gWS := List.mem_filter.mpr ⟨(tk_6 _ (List.mem_of_getElem? (i := 122) rfl)), rfl⟩
theorem kw_1197 : Cond.methodLink RX12 375 yX12_seeksDoors ∈ gWS := List.mem_filter.mpr ⟨(tk_8 _ (List.mem_of_getElem? (i := 100) rfl)), rfl⟩
theorem kw_1198 : Cond.instanceMethod yX12_seeksDoors ∈ gWS := List.mem_filter.mpr ⟨(tk_8 _ (List.mem_of_getElem? (i := 102) rfl)), rfl⟩
theorem kw_1199 : Cond.selects RX12 yX12_seeksDoors yX12_seeksDoors ∈ gWS := List.mem_filter.mpr ⟨(List.mem_append_left _ (List.mem_of_getElem? (i := 102) rfl)), rfl⟩
theorem kw_1200 : Cond.code yX12_seeksDoors cX12_seeksDoors 4 none ∈ gWS := List.mem_filter.mpr ⟨(tk_8 _ (List.mem_of_getElem? (i := 103) rfl)), rfl⟩
theorem kw_1201 : Cond.methodLink RX12 369 yX12_found ∈ gWS := List.mem_filter.mpr ⟨(tk_8 _ (List.mem_of_getElem? (i := 104) rfl)), rfl⟩
theorem kw_1202 : Cond.instanceMethod yX12_found ∈ gWS := List.mem_filter.mpr ⟨(tk_8 _ (List.mem_of_getElem? (i := 106) rfl)), rfl⟩
theorem kw_1203 : Cond.selects RX12 yX12_found yX12_found ∈ gWS := List.mem_filter.mpr ⟨(List.mem_append_left _ (List.mem_of_getElem? (i := 103) rfl)), rfl⟩
theorem kw_1204 : Cond.code yX12_found cX12_found 2 none ∈ gWS := List.mem_filter.mpr ⟨(tk_8 _ (List.mem_of_getElem? (i := 107) rfl)), rfl⟩
theorem kw_1205 : Cond.methodLink RX12 360 yX12_isWished ∈ gWS := List.mem_filter.mpr ⟨(tk_8 _ (List.mem_of_getElem? (i := 108) rfl)), rfl⟩
theorem kw_1206 : Cond.instanceMethod yX12_isWished ∈ gWS := List.mem_filter.mpr ⟨(tk_8 _ (List.mem_of_getElem? (i := 110) rfl)), rfl⟩
theorem kw_1207 : Cond.selects RX12 yX12_isWished yX12_isWished ∈ gWS := List.mem_filter.mpr ⟨(List.mem_append_left _ (List.mem_of_getElem? (i := 104) rfl)), rfl⟩
theorem kw_1208 : Cond.code yX12_isWished cX12_isWished 2 (some .boolean) ∈ gWS := List.mem_filter.mpr ⟨(tk_8 _ (List.mem_of_getElem? (i := 111) rfl)), rfl⟩
theorem kw_1209 : Cond.methodLink RX12 372 yX12_isPair ∈ gWS := List.mem_filter.mpr ⟨(tk_8 _ (List.mem_of_getElem? (i := 112) rfl)), rfl⟩
theorem kw_1210 : Cond.instanceMethod yX12_isPair ∈ gWS := List.mem_filter.mpr ⟨(tk_8 _ (List.mem_of_getElem? (i := 114) rfl)), rfl⟩
theorem kw_1211 : Cond.selects RX12 yX12_isPair yX12_isPair ∈ gWS := List.mem_filter.mpr ⟨(List.mem_append_left _ (List.mem_of_getElem? (i := 105) rfl)), rfl⟩
theorem kw_1212 : Cond.code yX12_isPair cX12_isPair 2 (some .boolean) ∈ gWS := List.mem_filter.mpr ⟨(tk_8 _ (List.mem_of_getElem? (i := 115) rfl)), rfl⟩
theorem kw_1213 : Cond.methodLink RL 122 yX11_news ∈ gWS := List.mem_filter.mpr ⟨(tk_5 _ (List.mem_of_getElem? (i := 131) rfl)), rfl⟩
theorem kw_1214 : Cond.instanceMethod yX11_news ∈ gWS := List.mem_filter.mpr ⟨(tk_5 _ (List.mem_of_getElem? (i := 132) rfl)), rfl⟩
theorem kw_1215 : Cond.selects RX11 yX11_news yX11_news ∈ gWS := List.mem_filter.mpr ⟨(tk_5 _ (List.mem_of_getElem? (i := 133) rfl)), rfl⟩
theorem kw_1216 : Cond.code yX11_news cX11_news 3 (some .int) ∈ gWS := List.mem_filter.mpr ⟨(tk_5 _ (List.mem_of_getElem? (i := 134) rfl)), rfl⟩
theorem kw_1217 : Cond.methodLink RX11 291 yX10_areHouses ∈ gWS := List.mem_filter.mpr ⟨(tk_5 _ (List.mem_of_getElem? (i := 135) rfl)), rfl⟩
theorem kw_1218 : Cond.instanceMethod yX10_areHouses ∈ gWS := List.mem_filter.mpr ⟨(tk_5 _ (List.mem_of_getElem? (i := 136) rfl)), rfl⟩
theorem kw_1219 : Cond.selects RX10 yX10_areHouses yX10_areHouses ∈ gWS := List.mem_filter.mpr ⟨(tk_5 _ (List.mem_of_getElem? (i := 137) rfl)), rfl⟩
theorem kw_1220 : Cond.code yX10_areHouses cX10_areHouses 2 (some .boolean) ∈ gWS := List.mem_filter.mpr ⟨(tk_5 _ (List.mem_of_getElem? (i := 138) rfl)), rfl⟩
theorem kw_1221 : Cond.methodLink RX11 294 yX4_firstDay ∈ gWS := List.mem_filter.mpr ⟨(tk_5 _ (List.mem_of_getElem? (i := 139) rfl)), rfl⟩
theorem kw_1222 : Cond.instanceMethod yX4_firstDay ∈ gWS := List.mem_filter.mpr ⟨(tk_5 _ (List.mem_of_getElem? (i := 140) rfl)), rfl⟩
theorem kw_1223 : Cond.selects RX4 yX4_firstDay yX4_firstDay ∈ gWS := List.mem_filter.mpr ⟨(tk_5 _ (List.mem_of_getElem? (i := 141) rfl)), rfl⟩
theorem kw_1224 : Cond.code yX4_firstDay cX4_firstDay 4 (some .int) ∈ gWS := List.mem_filter.mpr ⟨(tk_5 _ (List.mem_of_getElem? (i := 142) rfl)), rfl⟩
theorem kw_1225 : Cond.methodLink RX4 42 yX4_goRound ∈ gWS := List.mem_filter.mpr ⟨(tk_5 _ (List.mem_of_getElem? (i := 143) rfl)), rfl⟩
theorem kw_1226 : Cond.instanceMethod yX4_goRound ∈ gWS := List.mem_filter.mpr ⟨(tk_5 _ (List.mem_of_getElem? (i := 145) rfl)), rfl⟩
theorem kw_1227 : Cond.selects RX4 yX4_goRound yX4_goRound ∈ gWS := List.mem_filter.mpr ⟨(List.mem_append_left _ (List.mem_of_getElem? (i := 40) rfl)), rfl⟩
theorem kw_1228 : Cond.code yX4_goRound cX4_goRound 8 none ∈ gWS := List.mem_filter.mpr ⟨(tk_5 _ (List.mem_of_getElem? (i := 146) rfl)), rfl⟩
theorem kw_1229 : Cond.fieldLink RX4 55 "CornerTown$Town" "standing" "I" ∈ gWS := List.mem_filter.mpr ⟨(tk_1 _ (List.mem_of_getElem? (i := 87) rfl)), rfl⟩
theorem kw_1230 : Cond.methodLink RX4 50 yJ7_fill_53178 ∈ gWS := List.mem_filter.mpr ⟨(tk_5 _ (List.mem_of_getElem? (i := 147) rfl)), rfl⟩
theorem kw_1231 : Cond.methodLink RL 125 yX12_news ∈ gWS := List.mem_filter.mpr ⟨(tk_8 _ (List.mem_of_getElem? (i := 116) rfl)), rfl⟩
theorem kw_1232 : Cond.instanceMethod yX12_news ∈ gWS := List.mem_filter.mpr ⟨(tk_8 _ (List.mem_of_getElem? (i := 117) rfl)), rfl⟩
theorem kw_1233 : Cond.selects RX12 yX12_news yX12_news ∈ gWS := List.mem_filter.mpr ⟨(tk_8 _ (List.mem_of_getElem? (i := 118) rfl)), rfl⟩
theorem kw_1234 : Cond.code yX12_news cX12_news 3 (some .int) ∈ gWS := List.mem_filter.mpr ⟨(tk_8 _ (List.mem_of_getElem? (i := 119) rfl)), rfl⟩
theorem kw_1235 : Cond.methodLink RX12 378 yX12_spreads ∈ gWS := List.mem_filter.mpr ⟨(tk_8 _ (List.mem_of_getElem? (i := 120) rfl)), rfl⟩
theorem kw_1236 : Cond.instanceMethod yX12_spreads ∈ gWS := List.mem_filter.mpr ⟨(tk_8 _ (List.mem_of_getElem? (i := 122) rfl)), rfl⟩
theorem kw_1237 : Cond.selects RX12 yX12_spreads yX12_spreads ∈ gWS := List.mem_filter.mpr ⟨(List.mem_append_left _ (List.mem_of_getElem? (i := 106) rfl)), rfl⟩
theorem kw_1238 : Cond.code yX12_spreads cX12_spreads 6 none ∈ gWS := List.mem_filter.mpr ⟨(tk_8 _ (List.mem_of_getElem? (i := 123) rfl)), rfl⟩
theorem kw_1239 : Cond.methodLink RL 126 yX11_log ∈ gWS := List.mem_filter.mpr ⟨(tk_5 _ (List.mem_of_getElem? (i := 150) rfl)), rfl⟩
theorem kw_1240 : Cond.instanceMethod yX11_log ∈ gWS := List.mem_filter.mpr ⟨(tk_5 _ (List.mem_of_getElem? (i := 151) rfl)), rfl⟩
theorem kw_1241 : Cond.selects RX11 yX11_log yX11_log ∈ gWS := List.mem_filter.mpr ⟨(tk_5 _ (List.mem_of_getElem? (i := 152) rfl)), rfl⟩
theorem kw_1242 : Cond.code yX11_log cX11_log 3 (some .int) ∈ gWS := List.mem_filter.mpr ⟨(tk_5 _ (List.mem_of_getElem? (i := 153) rfl)), rfl⟩
theorem kw_1243 : Cond.fieldLink RX11 297 "CornerTown$Town" "logs" "LCornerTown$Pairs;" ∈ gWS := List.mem_filter.mpr ⟨(tk_1 _ (List.mem_of_getElem? (i := 122) rfl)), rfl⟩
theorem kw_1244 : Cond.methodLink RL 129 yX12_log ∈ gWS := List.mem_filter.mpr ⟨(tk_8 _ (List.mem_of_getElem? (i := 124) rfl)), rfl⟩
theorem kw_1245 : Cond.instanceMethod yX12_log ∈ gWS := List.mem_filter.mpr ⟨(tk_8 _ (List.mem_of_getElem? (i := 125) rfl)), rfl⟩
theorem kw_1246 : Cond.selects RX12 yX12_log yX12_log ∈ gWS := List.mem_filter.mpr ⟨(tk_8 _ (List.mem_of_getElem? (i := 126) rfl)), rfl⟩
theorem kw_1247 : Cond.code yX12_log cX12_log 4 (some .int) ∈ gWS := List.mem_filter.mpr ⟨(tk_8 _ (List.mem_of_getElem? (i := 127) rfl)), rfl⟩
theorem kw_1248 : Cond.methodLink RL 130 yX11_forget ∈ gWS := List.mem_filter.mpr ⟨(tk_5 _ (List.mem_of_getElem? (i := 154) rfl)), rfl⟩
theorem kw_1249 : Cond.instanceMethod yX11_forget ∈ gWS := List.mem_filter.mpr ⟨(tk_5 _ (List.mem_of_getElem? (i := 155) rfl)), rfl⟩
theorem kw_1250 : Cond.selects RX11 yX11_forget yX11_forget ∈ gWS := List.mem_filter.mpr ⟨(tk_5 _ (List.mem_of_getElem? (i := 156) rfl)), rfl⟩
theorem kw_1251 : Cond.code yX11_forget cX11_forget 2 (some .int) ∈ gWS := List.mem_filter.mpr ⟨(tk_5 _ (List.mem_of_getElem? (i := 157) rfl)), rfl⟩
theorem kw_1252 : Cond.methodLink RL 133 yX12_forget ∈ gWS := List.mem_filter.mpr ⟨(tk_8 _ (List.mem_of_getElem? (i := 128) rfl)), rfl⟩
theorem kw_1253 : Cond.instanceMethod yX12_forget ∈ gWS := List.mem_filter.mpr ⟨(tk_8 _ (List.mem_of_getElem? (i := 129) rfl)), rfl⟩
theorem kw_1254 : Cond.selects RX12 yX12_forget yX12_forget ∈ gWS := List.mem_filter.mpr ⟨(tk_8 _ (List.mem_of_getElem? (i := 130) rfl)), rfl⟩
theorem kw_1255 : Cond.code yX12_forget cX12_forget 2 (some .int) ∈ gWS := List.mem_filter.mpr ⟨(tk_8 _ (List.mem_of_getElem? (i := 131) rfl)), rfl⟩
theorem kw_1256 : Cond.methodLink RL 134 yX11_wrong ∈ gWS := List.mem_filter.mpr ⟨(tk_5 _ (List.mem_of_getElem? (i := 158) rfl)), rfl⟩
theorem kw_1257 : Cond.instanceMethod yX11_wrong ∈ gWS := List.mem_filter.mpr ⟨(tk_5 _ (List.mem_of_getElem? (i := 159) rfl)), rfl⟩
theorem kw_1258 : Cond.selects RX11 yX11_wrong yX11_wrong ∈ gWS := List.mem_filter.mpr ⟨(tk_5 _ (List.mem_of_getElem? (i := 160) rfl)), rfl⟩
theorem kw_1259 : Cond.code yX11_wrong cX11_wrong 2 (some .int) ∈ gWS := List.mem_filter.mpr ⟨(tk_5 _ (List.mem_of_getElem? (i := 161) rfl)), rfl⟩
theorem kw_1260 : Cond.methodLink RX11 300 yX4_wrongLogs ∈ gWS := List.mem_filter.mpr ⟨(tk_5 _ (List.mem_of_getElem? (i := 162) rfl)), rfl⟩
theorem kw_1261 : Cond.instanceMethod yX4_wrongLogs ∈ gWS := List.mem_filter.mpr ⟨(tk_5 _ (List.mem_of_getElem? (i := 163) rfl)), rfl⟩
theorem kw_1262 : Cond.selects RX4 yX4_wrongLogs yX4_wrongLogs ∈ gWS := List.mem_filter.mpr ⟨(tk_5 _ (List.mem_of_getElem? (i := 164) rfl)), rfl⟩
theorem kw_1263 : Cond.code yX4_wrongLogs cX4_wrongLogs 6 (some .int) ∈ gWS := List.mem_filter.mpr ⟨(tk_5 _ (List.mem_of_getElem? (i := 165) rfl)), rfl⟩
theorem kw_1264 : Cond.fieldLink RX4 68 "CornerTown$Town" "logs" "LCornerTown$Pairs;" ∈ gWS := List.mem_filter.mpr ⟨(tk_1 _ (List.mem_of_getElem? (i := 121) rfl)), rfl⟩
theorem kw_1265 : Cond.fieldLink RX4 72 "CornerTown$Pairs" "size" "I" ∈ gWS := List.mem_filter.mpr ⟨(tk_1 _ (List.mem_of_getElem? (i := 54) rfl)), rfl⟩
theorem kw_1266 : Cond.fieldLink RX4 77 "CornerTown$Pairs" "first" "[I" ∈ gWS := List.mem_filter.mpr ⟨(tk_1 _ (List.mem_of_getElem? (i := 48) rfl)), rfl⟩
theorem kw_1267 : Cond.fieldLink RX4 80 "CornerTown$Pairs" "second" "[I" ∈ gWS := List.mem_filter.mpr ⟨(tk_1 _ (List.mem_of_getElem? (i := 51) rfl)), rfl⟩
theorem kw_1268 : Cond.methodLink RX4 64 yX10_has ∈ gWS := List.mem_filter.mpr ⟨(tk_5 _ (List.mem_of_getElem? (i := 166) rfl)), rfl⟩
theorem kw_1269 : Cond.methodLink RL 137 yX12_wrong ∈ gWS := List.mem_filter.mpr ⟨(tk_8 _ (List.mem_of_getElem? (i := 132) rfl)), rfl⟩
theorem kw_1270 : Cond.instanceMethod yX12_wrong ∈ gWS := List.mem_filter.mpr ⟨(tk_8 _ (List.mem_of_getElem? (i := 133) rfl)), rfl⟩
theorem kw_1271 : Cond.selects RX12 yX12_wrong yX12_wrong ∈ gWS := List.mem_filter.mpr ⟨(tk_8 _ (List.mem_of_getElem? (i := 134) rfl)), rfl⟩
theorem kw_1272 : Cond.code yX12_wrong cX12_wrong 2 (some .int) ∈ gWS := List.mem_filter.mpr ⟨(tk_8 _ (List.mem_of_getElem? (i := 135) rfl)), rfl⟩
theorem kw_1273 : Cond.methodLink RX12 381 yX12_wrongs ∈ gWS := List.mem_filter.mpr ⟨(tk_8 _ (List.mem_of_getElem? (i := 136) rfl)), rfl⟩
theorem kw_1274 : Cond.instanceMethod yX12_wrongs ∈ gWS := List.mem_filter.mpr ⟨(tk_8 _ (List.mem_of_getElem? (i := 138) rfl)), rfl⟩
theorem kw_1275 : Cond.selects RX12 yX12_wrongs yX12_wrongs ∈ gWS := List.mem_filter.mpr ⟨(List.mem_append_left _ (List.mem_of_getElem? (i := 107) rfl)), rfl⟩
theorem kw_1276 : Cond.code yX12_wrongs cX12_wrongs 4 (some .int) ∈ gWS := List.mem_filter.mpr ⟨(tk_8 _ (List.mem_of_getElem? (i := 139) rfl)), rfl⟩
theorem kw_1277 : Cond.methodLink RL 138 yX11_fits ∈ gWS := List.mem_filter.mpr ⟨(tk_5 _ (List.mem_of_getElem? (i := 167) rfl)), rfl⟩
theorem kw_1278 : Cond.instanceMethod yX11_fits ∈ gWS := List.mem_filter.mpr ⟨(tk_5 _ (List.mem_of_getElem? (i := 168) rfl)), rfl⟩
theorem kw_1279 : Cond.selects RX11 yX11_fits yX11_fits ∈ gWS := List.mem_filter.mpr ⟨(tk_5 _ (List.mem_of_getElem? (i := 169) rfl)), rfl⟩
theorem kw_1280 : Cond.code yX11_fits cX11_fits 3 (some .int) ∈ gWS := List.mem_filter.mpr ⟨(tk_5 _ (List.mem_of_getElem? (i := 170) rfl)), rfl⟩
theorem kw_1281 : Cond.fieldLink RX11 307 "CornerTown$News" "fitsAsIs" "Z" ∈ gWS := List.mem_filter.mpr ⟨(tk_2 _ (List.mem_of_getElem? (i := 110) rfl)), rfl⟩
theorem kw_1282 : Cond.fieldLink RX11 311 "CornerTown$News" "fitting" "I" ∈ gWS := List.mem_filter.mpr ⟨(tk_2 _ (List.mem_of_getElem? (i := 112) rfl)), rfl⟩
theorem kw_1283 : Cond.fieldLink RX11 314 "CornerTown$News" "fitLow" "I" ∈ gWS := List.mem_filter.mpr ⟨(tk_2 _ (List.mem_of_getElem? (i := 114) rfl)), rfl⟩
theorem kw_1284 : Cond.fieldLink RX11 317 "CornerTown$News" "fitHigh" "I" ∈ gWS := List.mem_filter.mpr ⟨(tk_2 _ (List.mem_of_getElem? (i := 116) rfl)), rfl⟩
theorem kw_1285 : Cond.methodLink RX11 303 yX4_seekDoor ∈ gWS := List.mem_filter.mpr ⟨(tk_5 _ (List.mem_of_getElem? (i := 171) rfl)), rfl⟩
theorem kw_1286 : Cond.instanceMethod yX4_seekDoor ∈ gWS := List.mem_filter.mpr ⟨(tk_5 _ (List.mem_of_getElem? (i := 172) rfl)), rfl⟩
theorem kw_1287 : Cond.selects RX4 yX4_seekDoor yX4_seekDoor ∈ gWS := List.mem_filter.mpr ⟨(tk_5 _ (List.mem_of_getElem? (i := 173) rfl)), rfl⟩
theorem kw_1288 : Cond.code yX4_seekDoor cX4_seekDoor 6 none ∈ gWS := List.mem_filter.mpr ⟨(tk_5 _ (List.mem_of_getElem? (i := 174) rfl)), rfl⟩
theorem kw_1289 : Cond.fieldLink RX4 83 "CornerTown$Town" "changes" "I" ∈ gWS := List.mem_filter.mpr ⟨(tk_1 _ (List.mem_of_getElem? (i := 127) rfl)), rfl⟩
theorem kw_1290 : Cond.methodLink RX4 86 arraycopyName ∈ gWS := List.mem_filter.mpr ⟨(tk_5 _ (List.mem_of_getElem? (i := 175) rfl)), rfl⟩
theorem kw_1291 : Cond.fieldLink RX4 96 "CornerTown$Town" "houses" "I" ∈ gWS := List.mem_filter.mpr ⟨(tk_1 _ (List.mem_of_getElem? (i := 82) rfl)), rfl⟩
theorem kw_1292 : Cond.fieldLink RX4 99 "CornerTown$Town" "doorRows" "[I" ∈ gWS := List.mem_filter.mpr ⟨(tk_1 _ (List.mem_of_getElem? (i := 97) rfl)), rfl⟩
theorem kw_1293 : Cond.methodLink RX4 92 yX4_wrongLogs ∈ gWS := List.mem_filter.mpr ⟨(tk_5 _ (List.mem_of_getElem? (i := 176) rfl)), rfl⟩
theorem kw_1294 : Cond.methodLink RX4 102 yX0_putPair ∈ gWS := List.mem_filter.mpr ⟨(tk_5 _ (List.mem_of_getElem? (i := 177) rfl)), rfl⟩
theorem kw_1295 : Cond.methodLink RX4 108 yX4_tryDoor ∈ gWS := List.mem_filter.mpr ⟨(tk_5 _ (List.mem_of_getElem? (i := 178) rfl)), rfl⟩
theorem kw_1296 : Cond.instanceMethod yX4_tryDoor ∈ gWS := List.mem_filter.mpr ⟨(tk_5 _ (List.mem_of_getElem? (i := 180) rfl)), rfl⟩
theorem kw_1297 : Cond.selects RX4 yX4_tryDoor yX4_tryDoor ∈ gWS := List.mem_filter.mpr ⟨(List.mem_append_left _ (List.mem_of_getElem? (i := 41) rfl)), rfl⟩
theorem kw_1298 : Cond.code yX4_tryDoor cX4_tryDoor 4 none ∈ gWS := List.mem_filter.mpr ⟨(tk_5 _ (List.mem_of_getElem? (i := 181) rfl)), rfl⟩
theorem kw_1299 : Cond.methodLink RL 141 yX12_fits ∈ gWS := List.mem_filter.mpr ⟨(tk_8 _ (List.mem_of_getElem? (i := 140) rfl)), rfl⟩
theorem kw_1300 : Cond.instanceMethod yX12_fits ∈ gWS := List.mem_filter.mpr ⟨(tk_8 _ (List.mem_of_getElem? (i := 141) rfl)), rfl⟩
theorem kw_1301 : Cond.selects RX12 yX12_fits yX12_fits ∈ gWS := List.mem_filter.mpr ⟨(tk_8 _ (List.mem_of_getElem? (i := 142) rfl)), rfl⟩
theorem kw_1302 : Cond.code yX12_fits cX12_fits 6 (some .int) ∈ gWS := List.mem_filter.mpr ⟨(tk_8 _ (List.mem_of_getElem? (i := 143) rfl)), rfl⟩
theorem kw_1303 : Cond.methodLink RL 142 yX11_round ∈ gWS := List.mem_filter.mpr ⟨(tk_5 _ (List.mem_of_getElem? (i := 182) rfl)), rfl⟩
theorem kw_1304 : Cond.instanceMethod yX11_round ∈ gWS := List.mem_filter.mpr ⟨(tk_5 _ (List.mem_of_getElem? (i := 183) rfl)), rfl⟩
theorem kw_1305 : Cond.selects RX11 yX11_round yX11_round ∈ gWS := List.mem_filter.mpr ⟨(tk_5 _ (List.mem_of_getElem? (i := 184) rfl)), rfl⟩
theorem kw_1306 : Cond.code yX11_round cX11_round 3 (some .int) ∈ gWS := List.mem_filter.mpr ⟨(tk_5 _ (List.mem_of_getElem? (i := 185) rfl)), rfl⟩
theorem kw_1307 : Cond.fieldLink RX11 323 "CornerTown$Rounds" "taken" "I" ∈ gWS := List.mem_filter.mpr ⟨(tk_2 _ (List.mem_of_getElem? (i := 154) rfl)), rfl⟩
theorem kw_1308 : Cond.methodLink RX11 320 yX8_plan ∈ gWS := List.mem_filter.mpr ⟨(tk_5 _ (List.mem_of_getElem? (i := 186) rfl)), rfl⟩
theorem kw_1309 : Cond.instanceMethod yX8_plan ∈ gWS := List.mem_filter.mpr ⟨(tk_5 _ (List.mem_of_getElem? (i := 187) rfl)), rfl⟩
theorem kw_1310 : Cond.selects RX8 yX8_plan yX8_plan ∈ gWS := List.mem_filter.mpr ⟨(tk_5 _ (List.mem_of_getElem? (i := 188) rfl)), rfl⟩
theorem kw_1311 : Cond.code yX8_plan cX8_plan 3 (some .boolean) ∈ gWS := List.mem_filter.mpr ⟨(tk_5 _ (List.mem_of_getElem? (i := 189) rfl)), rfl⟩
theorem kw_1312 : Cond.fieldLink RX8 52 "CornerTown$Town" "changes" "I" ∈ gWS := List.mem_filter.mpr ⟨(tk_1 _ (List.mem_of_getElem? (i := 125) rfl)), rfl⟩
theorem kw_1313 : Cond.methodLink RX8 57 yX8_isRound ∈ gWS := List.mem_filter.mpr ⟨(tk_5 _ (List.mem_of_getElem? (i := 190) rfl)), rfl⟩
theorem kw_1314 : Cond.instanceMethod yX8_isRound ∈ gWS := List.mem_filter.mpr ⟨(tk_5 _ (List.mem_of_getElem? (i := 192) rfl)), rfl⟩
theorem kw_1315 : Cond.selects RX8 yX8_isRound yX8_isRound ∈ gWS := List.mem_filter.mpr ⟨(List.mem_append_left _ (List.mem_of_getElem? (i := 42) rfl)), rfl⟩
theorem kw_1316 : Cond.code yX8_isRound cX8_isRound 5 (some .boolean) ∈ gWS := List.mem_filter.mpr ⟨(tk_5 _ (List.mem_of_getElem? (i := 193) rfl)), rfl⟩
theorem kw_1317 : Cond.fieldLink RX8 75 "CornerTown$Town" "standing" "I" ∈ gWS := List.mem_filter.mpr ⟨(tk_1 _ (List.mem_of_getElem? (i := 90) rfl)), rfl⟩
theorem kw_1318 : Cond.fieldLink RX8 82 "CornerTown$Town" "houses" "I" ∈ gWS := List.mem_filter.mpr ⟨(tk_1 _ (List.mem_of_getElem? (i := 81) rfl)), rfl⟩
theorem kw_1319 : Cond.methodLink RX8 71 yX10_has ∈ gWS := List.mem_filter.mpr ⟨(tk_5 _ (List.mem_of_getElem? (i := 194) rfl)), rfl⟩
theorem kw_1320 : Cond.methodLink RX8 85 yX9_shortestTime ∈ gWS := List.mem_filter.mpr ⟨(tk_5 _ (List.mem_of_getElem? (i := 196) rfl)), rfl⟩
theorem kw_1321 : Cond.methodLink RX8 61 yX8_listErrands ∈ gWS := List.mem_filter.mpr ⟨(tk_5 _ (List.mem_of_getElem? (i := 197) rfl)), rfl⟩
theorem kw_1322 : Cond.instanceMethod yX8_listErrands ∈ gWS := List.mem_filter.mpr ⟨(tk_5 _ (List.mem_of_getElem? (i := 199) rfl)), rfl⟩
theorem kw_1323 : Cond.selects RX8 yX8_listErrands yX8_listErrands ∈ gWS := List.mem_filter.mpr ⟨(List.mem_append_left _ (List.mem_of_getElem? (i := 43) rfl)), rfl⟩
theorem kw_1324 : Cond.code yX8_listErrands cX8_listErrands 5 none ∈ gWS := List.mem_filter.mpr ⟨(tk_5 _ (List.mem_of_getElem? (i := 200) rfl)), rfl⟩
theorem kw_1325 : Cond.methodLink RX8 65 yX8_fillLeast ∈ gWS := List.mem_filter.mpr ⟨(tk_5 _ (List.mem_of_getElem? (i := 201) rfl)), rfl⟩
theorem kw_1326 : Cond.instanceMethod yX8_fillLeast ∈ gWS := List.mem_filter.mpr ⟨(tk_5 _ (List.mem_of_getElem? (i := 203) rfl)), rfl⟩
theorem kw_1327 : Cond.selects RX8 yX8_fillLeast yX8_fillLeast ∈ gWS := List.mem_filter.mpr ⟨(List.mem_append_left _ (List.mem_of_getElem? (i := 44) rfl)), rfl⟩
theorem kw_1328 : Cond.code yX8_fillLeast cX8_fillLeast 4 none ∈ gWS := List.mem_filter.mpr ⟨(tk_5 _ (List.mem_of_getElem? (i := 204) rfl)), rfl⟩
theorem kw_1329 : Cond.methodLink RX8 90 yX8_leastFrom ∈ gWS := List.mem_filter.mpr ⟨(tk_5 _ (List.mem_of_getElem? (i := 205) rfl)), rfl⟩
theorem kw_1330 : Cond.instanceMethod yX8_leastFrom ∈ gWS := List.mem_filter.mpr ⟨(tk_5 _ (List.mem_of_getElem? (i := 207) rfl)), rfl⟩
theorem kw_1331 : Cond.selects RX8 yX8_leastFrom yX8_leastFrom ∈ gWS := List.mem_filter.mpr ⟨(List.mem_append_left _ (List.mem_of_getElem? (i := 45) rfl)), rfl⟩
theorem kw_1332 : Cond.code yX8_leastFrom cX8_leastFrom 5 (some .int) ∈ gWS := List.mem_filter.mpr ⟨(tk_5 _ (List.mem_of_getElem? (i := 208) rfl)), rfl⟩
theorem kw_1333 : Cond.constant RX8 96 (1000000) ∈ gWS := List.mem_filter.mpr ⟨(tk_5 _ (List.mem_of_getElem? (i := 213) rfl)), rfl⟩
theorem kw_1334 : Cond.methodLink RX8 100 Lib.Math.min.name ∈ gWS := List.mem_filter.mpr ⟨(tk_5 _ (List.mem_of_getElem? (i := 218) rfl)), rfl⟩
theorem kw_1335 : Cond.methodLink RX8 93 yX8_timeBetween ∈ gWS := List.mem_filter.mpr ⟨(tk_5 _ (List.mem_of_getElem? (i := 209) rfl)), rfl⟩
theorem kw_1336 : Cond.instanceMethod yX8_timeBetween ∈ gWS := List.mem_filter.mpr ⟨(tk_5 _ (List.mem_of_getElem? (i := 211) rfl)), rfl⟩
theorem kw_1337 : Cond.selects RX8 yX8_timeBetween yX8_timeBetween ∈ gWS := List.mem_filter.mpr ⟨(List.mem_append_left _ (List.mem_of_getElem? (i := 46) rfl)), rfl⟩
theorem kw_1338 : Cond.code yX8_timeBetween cX8_timeBetween 4 (some .int) ∈ gWS := List.mem_filter.mpr ⟨(tk_5 _ (List.mem_of_getElem? (i := 212) rfl)), rfl⟩
theorem kw_1339 : Cond.methodLink RX8 97 yX8_leastAt ∈ gWS := List.mem_filter.mpr ⟨(tk_5 _ (List.mem_of_getElem? (i := 214) rfl)), rfl⟩
theorem kw_1340 : Cond.instanceMethod yX8_leastAt ∈ gWS := List.mem_filter.mpr ⟨(tk_5 _ (List.mem_of_getElem? (i := 216) rfl)), rfl⟩
theorem kw_1341 : Cond.selects RX8 yX8_leastAt yX8_leastAt ∈ gWS := List.mem_filter.mpr ⟨(List.mem_append_left _ (List.mem_of_getElem? (i := 47) rfl)), rfl⟩
theorem kw_1342 : Cond.code yX8_leastAt cX8_leastAt 4 (some .int) ∈ gWS := List.mem_filter.mpr ⟨(tk_5 _ (List.mem_of_getElem? (i := 217) rfl)), rfl⟩
theorem kw_1343 : Cond.methodLink RX8 68 yX8_walk ∈ gWS := List.mem_filter.mpr ⟨(tk_5 _ (List.mem_of_getElem? (i := 219) rfl)), rfl⟩
theorem kw_1344 : Cond.instanceMethod yX8_walk ∈ gWS := List.mem_filter.mpr ⟨(tk_5 _ (List.mem_of_getElem? (i := 221) rfl)), rfl⟩
theorem kw_1345 : Cond.selects RX8 yX8_walk yX8_walk ∈ gWS := List.mem_filter.mpr ⟨(List.mem_append_left _ (List.mem_of_getElem? (i := 48) rfl)), rfl⟩
theorem kw_1346 : Cond.code yX8_walk cX8_walk 5 none ∈ gWS := List.mem_filter.mpr ⟨(tk_5 _ (List.mem_of_getElem? (i := 222) rfl)), rfl⟩
theorem kw_1347 : Cond.methodLink RX8 105 yX8_nextErrand ∈ gWS := List.mem_filter.mpr ⟨(tk_5 _ (List.mem_of_getElem? (i := 223) rfl)), rfl⟩
theorem kw_1348 : Cond.instanceMethod yX8_nextErrand ∈ gWS := List.mem_filter.mpr ⟨(tk_5 _ (List.mem_of_getElem? (i := 225) rfl)), rfl⟩
theorem kw_1349 : Cond.selects RX8 yX8_nextErrand yX8_nextErrand ∈ gWS := List.mem_filter.mpr ⟨(List.mem_append_left _ (List.mem_of_getElem? (i := 49) rfl)), rfl⟩
theorem kw_1350 : Cond.code yX8_nextErrand cX8_nextErrand 5 (some .int) ∈ gWS := List.mem_filter.mpr ⟨(tk_5 _ (List.mem_of_getElem? (i := 226) rfl)), rfl⟩
theorem kw_1351 : Cond.methodLink RL 145 yX12_round ∈ gWS := List.mem_filter.mpr ⟨(tk_8 _ (List.mem_of_getElem? (i := 144) rfl)), rfl⟩
theorem kw_1352 : Cond.instanceMethod yX12_round ∈ gWS := List.mem_filter.mpr ⟨(tk_8 _ (List.mem_of_getElem? (i := 145) rfl)), rfl⟩
theorem kw_1353 : Cond.selects RX12 yX12_round yX12_round ∈ gWS := List.mem_filter.mpr ⟨(tk_8 _ (List.mem_of_getElem? (i := 146) rfl)), rfl⟩
theorem kw_1354 : Cond.code yX12_round cX12_round 4 (some .int) ∈ gWS := List.mem_filter.mpr ⟨(tk_8 _ (List.mem_of_getElem? (i := 147) rfl)), rfl⟩
theorem kw_1355 : Cond.methodLink RX12 387 yX12_canRound ∈ gWS := List.mem_filter.mpr ⟨(tk_8 _ (List.mem_of_getElem? (i := 148) rfl)), rfl⟩
theorem kw_1356 : Cond.instanceMethod yX12_canRound ∈ gWS := List.mem_filter.mpr ⟨(tk_8 _ (List.mem_of_getElem? (i := 150) rfl)), rfl⟩
theorem kw_1357 : Cond.selects RX12 yX12_canRound yX12_canRound ∈ gWS := List.mem_filter.mpr ⟨(List.mem_append_left _ (List.mem_of_getElem? (i := 108) rfl)), rfl⟩
theorem kw_1358 : Cond.code yX12_canRound cX12_canRound 3 (some .boolean) ∈ gWS := List.mem_filter.mpr ⟨(tk_8 _ (List.mem_of_getElem? (i := 151) rfl)), rfl⟩
theorem kw_1359 : Cond.methodLink RX12 390 yX12_least ∈ gWS := List.mem_filter.mpr ⟨(tk_8 _ (List.mem_of_getElem? (i := 152) rfl)), rfl⟩
theorem kw_1360 : Cond.instanceMethod yX12_least ∈ gWS := List.mem_filter.mpr ⟨(tk_8 _ (List.mem_of_getElem? (i := 154) rfl)), rfl⟩
theorem kw_1361 : Cond.selects RX12 yX12_least yX12_least ∈ gWS := List.mem_filter.mpr ⟨(List.mem_append_left _ (List.mem_of_getElem? (i := 109) rfl)), rfl⟩
theorem kw_1362 : Cond.code yX12_least cX12_least 8 (some .int) ∈ gWS := List.mem_filter.mpr ⟨(tk_8 _ (List.mem_of_getElem? (i := 155) rfl)), rfl⟩
theorem kw_1363 : Cond.methodLink RX12 384 yX12_laysBetween ∈ gWS := List.mem_filter.mpr ⟨(tk_8 _ (List.mem_of_getElem? (i := 156) rfl)), rfl⟩
theorem kw_1364 : Cond.instanceMethod yX12_laysBetween ∈ gWS := List.mem_filter.mpr ⟨(tk_8 _ (List.mem_of_getElem? (i := 158) rfl)), rfl⟩
theorem kw_1365 : Cond.selects RX12 yX12_laysBetween yX12_laysBetween ∈ gWS := List.mem_filter.mpr ⟨(List.mem_append_left _ (List.mem_of_getElem? (i := 110) rfl)), rfl⟩
theorem kw_1366 : Cond.code yX12_laysBetween cX12_laysBetween 3 none ∈ gWS := List.mem_filter.mpr ⟨(tk_8 _ (List.mem_of_getElem? (i := 159) rfl)), rfl⟩
theorem kw_1367 : Cond.methodLink RL 146 yX11_stop ∈ gWS := List.mem_filter.mpr ⟨(tk_5 _ (List.mem_of_getElem? (i := 228) rfl)), rfl⟩
theorem kw_1368 : Cond.instanceMethod yX11_stop ∈ gWS := List.mem_filter.mpr ⟨(tk_5 _ (List.mem_of_getElem? (i := 229) rfl)), rfl⟩
theorem kw_1369 : Cond.selects RX11 yX11_stop yX11_stop ∈ gWS := List.mem_filter.mpr ⟨(tk_5 _ (List.mem_of_getElem? (i := 230) rfl)), rfl⟩
theorem kw_1370 : Cond.code yX11_stop cX11_stop 4 (some .int) ∈ gWS := List.mem_filter.mpr ⟨(tk_5 _ (List.mem_of_getElem? (i := 231) rfl)), rfl⟩
theorem kw_1371 : Cond.methodLink RX11 326 yX8_stopAt ∈ gWS := List.mem_filter.mpr ⟨(tk_5 _ (List.mem_of_getElem? (i := 232) rfl)), rfl⟩
theorem kw_1372 : Cond.instanceMethod yX8_stopAt ∈ gWS := List.mem_filter.mpr ⟨(tk_5 _ (List.mem_of_getElem? (i := 233) rfl)), rfl⟩
theorem kw_1373 : Cond.selects RX8 yX8_stopAt yX8_stopAt ∈ gWS := List.mem_filter.mpr ⟨(tk_5 _ (List.mem_of_getElem? (i := 234) rfl)), rfl⟩
theorem kw_1374 : Cond.code yX8_stopAt cX8_stopAt 2 (some .int) ∈ gWS := List.mem_filter.mpr ⟨(tk_5 _ (List.mem_of_getElem? (i := 235) rfl)), rfl⟩
theorem kw_1375 : Cond.methodLink RL 149 yX12_stop ∈ gWS := List.mem_filter.mpr ⟨(tk_8 _ (List.mem_of_getElem? (i := 160) rfl)), rfl⟩
theorem kw_1376 : Cond.instanceMethod yX12_stop ∈ gWS := List.mem_filter.mpr ⟨(tk_8 _ (List.mem_of_getElem? (i := 161) rfl)), rfl⟩
theorem kw_1377 : Cond.selects RX12 yX12_stop yX12_stop ∈ gWS := List.mem_filter.mpr ⟨(tk_8 _ (List.mem_of_getElem? (i := 162) rfl)), rfl⟩
theorem kw_1378 : Cond.code yX12_stop cX12_stop 8 (some .int) ∈ gWS := List.mem_filter.mpr ⟨(tk_8 _ (List.mem_of_getElem? (i := 163) rfl)), rfl⟩
theorem kw_1379 : Cond.methodLink RX12 393 yX12_round ∈ gWS := List.mem_filter.mpr ⟨(tk_8 _ (List.mem_of_getElem? (i := 164) rfl)), rfl⟩
theorem kw_1380 : Cond.methodLink RL 150 yX11_meet ∈ gWS := List.mem_filter.mpr ⟨(tk_5 _ (List.mem_of_getElem? (i := 236) rfl)), rfl⟩
theorem kw_1381 : Cond.instanceMethod yX11_meet ∈ gWS := List.mem_filter.mpr ⟨(tk_5 _ (List.mem_of_getElem? (i := 237) rfl)), rfl⟩
theorem kw_1382 : Cond.selects RX11 yX11_meet yX11_meet ∈ gWS := List.mem_filter.mpr ⟨(tk_5 _ (List.mem_of_getElem? (i := 238) rfl)), rfl⟩
theorem kw_1383 : Cond.code yX11_meet cX11_meet 5 (some .int) ∈ gWS := List.mem_filter.mpr ⟨(tk_5 _ (List.mem_of_getElem? (i := 239) rfl)), rfl⟩
theorem kw_1384 : Cond.methodLink RX11 332 Lib.Math.max.name ∈ gWS := List.mem_filter.mpr ⟨(tk_6 _ (List.mem_of_getElem? (i := 6) rfl)), rfl⟩
theorem kw_1385 : Cond.methodLink RX11 329 yX9_meetingPlace ∈ gWS := List.mem_filter.mpr ⟨(tk_6 _ (List.mem_of_getElem? (i := 0) rfl)), rfl⟩
theorem kw_1386 : Cond.instanceMethod yX9_meetingPlace ∈ gWS := List.mem_filter.mpr ⟨(tk_6 _ (List.mem_of_getElem? (i := 1) rfl)), rfl⟩
theorem kw_1387 : Cond.selects RX9 yX9_meetingPlace yX9_meetingPlace ∈ gWS := List.mem_filter.mpr ⟨(tk_6 _ (List.mem_of_getElem? (i := 2) rfl)), rfl⟩
theorem kw_1388 : Cond.code yX9_meetingPlace cX9_meetingPlace 11 (some .int) ∈ gWS := List.mem_filter.mpr ⟨(tk_6 _ (List.mem_of_getElem? (i := 3) rfl)), rfl⟩
theorem kw_1389 : Cond.methodLink RX9 141 Lib.Math.max.name ∈ gWS := List.mem_filter.mpr ⟨(tk_6 _ (List.mem_of_getElem? (i := 5) rfl)), rfl⟩
theorem kw_1390 : Cond.methodLink RX9 138 yX9_shortestTime ∈ gWS := List.mem_filter.mpr ⟨(tk_6 _ (List.mem_of_getElem? (i := 4) rfl)), rfl⟩
theorem kw_1391 : Cond.methodLink RL 153 yX12_meet ∈ gWS := List.mem_filter.mpr ⟨(tk_8 _ (List.mem_of_getElem? (i := 165) rfl)), rfl⟩
theorem kw_1392 : Cond.instanceMethod yX12_meet ∈ gWS := List.mem_filter.mpr ⟨(tk_8 _ (List.mem_of_getElem? (i := 166) rfl)), rfl⟩
theorem kw_1393 : Cond.selects RX12 yX12_meet yX12_meet ∈ gWS := List.mem_filter.mpr ⟨(tk_8 _ (List.mem_of_getElem? (i := 167) rfl)), rfl⟩
theorem kw_1394 : Cond.code yX12_meet cX12_meet 11 (some .int) ∈ gWS := List.mem_filter.mpr ⟨(tk_8 _ (List.mem_of_getElem? (i := 168) rfl)), rfl⟩
theorem kw_1395 : Cond.methodLink RL 154 yX11_site ∈ gWS := List.mem_filter.mpr ⟨(tk_6 _ (List.mem_of_getElem? (i := 7) rfl)), rfl⟩
theorem kw_1396 : Cond.instanceMethod yX11_site ∈ gWS := List.mem_filter.mpr ⟨(tk_6 _ (List.mem_of_getElem? (i := 8) rfl)), rfl⟩
theorem kw_1397 : Cond.selects RX11 yX11_site yX11_site ∈ gWS := List.mem_filter.mpr ⟨(tk_6 _ (List.mem_of_getElem? (i := 9) rfl)), rfl⟩
theorem kw_1398 : Cond.code yX11_site cX11_site 9 (some .int) ∈ gWS := List.mem_filter.mpr ⟨(tk_6 _ (List.mem_of_getElem? (i := 10) rfl)), rfl⟩
theorem kw_1399 : Cond.methodLink RX11 337 yX10_suits ∈ gWS := List.mem_filter.mpr ⟨(tk_6 _ (List.mem_of_getElem? (i := 11) rfl)), rfl⟩
theorem kw_1400 : Cond.instanceMethod yX10_suits ∈ gWS := List.mem_filter.mpr ⟨(tk_6 _ (List.mem_of_getElem? (i := 12) rfl)), rfl⟩
theorem kw_1401 : Cond.selects RX10 yX10_suits yX10_suits ∈ gWS := List.mem_filter.mpr ⟨(tk_6 _ (List.mem_of_getElem? (i := 13) rfl)), rfl⟩
theorem kw_1402 : Cond.code yX10_suits cX10_suits 11 (some .boolean) ∈ gWS := List.mem_filter.mpr ⟨(tk_6 _ (List.mem_of_getElem? (i := 14) rfl)), rfl⟩
theorem kw_1403 : Cond.methodLink RL 157 yX12_site ∈ gWS := List.mem_filter.mpr ⟨(tk_8 _ (List.mem_of_getElem? (i := 169) rfl)), rfl⟩
theorem kw_1404 : Cond.instanceMethod yX12_site ∈ gWS := List.mem_filter.mpr ⟨(tk_8 _ (List.mem_of_getElem? (i := 170) rfl)), rfl⟩
theorem kw_1405 : Cond.selects RX12 yX12_site yX12_site ∈ gWS := List.mem_filter.mpr ⟨(tk_8 _ (List.mem_of_getElem? (i := 171) rfl)), rfl⟩
theorem kw_1406 : Cond.code yX12_site cX12_site 14 (some .int) ∈ gWS := List.mem_filter.mpr ⟨(tk_8 _ (List.mem_of_getElem? (i := 172) rfl)), rfl⟩
theorem kw_1407 : Cond.methodLink RL 158 yX11_flood ∈ gWS := List.mem_filter.mpr ⟨(tk_6 _ (List.mem_of_getElem? (i := 15) rfl)), rfl⟩
theorem kw_1408 : Cond.instanceMethod yX11_flood ∈ gWS := List.mem_filter.mpr ⟨(tk_6 _ (List.mem_of_getElem? (i := 16) rfl)), rfl⟩
theorem kw_1409 : Cond.selects RX11 yX11_flood yX11_flood ∈ gWS := List.mem_filter.mpr ⟨(tk_6 _ (List.mem_of_getElem? (i := 17) rfl)), rfl⟩
theorem kw_1410 : Cond.code yX11_flood cX11_flood 3 (some .int) ∈ gWS := List.mem_filter.mpr ⟨(tk_6 _ (List.mem_of_getElem? (i := 18) rfl)), rfl⟩
theorem kw_1411 : Cond.constant RX11 341 (1000000) ∈ gWS := List.mem_filter.mpr ⟨(tk_6 _ (List.mem_of_getElem? (i := 19) rfl)), rfl⟩
theorem kw_1412 : Cond.methodLink RX11 342 yX2_rise ∈ gWS := List.mem_filter.mpr ⟨(tk_6 _ (List.mem_of_getElem? (i := 20) rfl)), rfl⟩
theorem kw_1413 : Cond.instanceMethod yX2_rise ∈ gWS := List.mem_filter.mpr ⟨(tk_6 _ (List.mem_of_getElem? (i := 21) rfl)), rfl⟩
theorem kw_1414 : Cond.selects RX2 yX2_rise yX2_rise ∈ gWS := List.mem_filter.mpr ⟨(tk_6 _ (List.mem_of_getElem? (i := 22) rfl)), rfl⟩
theorem kw_1415 : Cond.code yX2_rise cX2_rise 7 (some .int) ∈ gWS := List.mem_filter.mpr ⟨(tk_6 _ (List.mem_of_getElem? (i := 23) rfl)), rfl⟩
theorem kw_1416 : Cond.methodLink RX2 45 Lib.Math.min.name ∈ gWS := List.mem_filter.mpr ⟨(tk_6 _ (List.mem_of_getElem? (i := 24) rfl)), rfl⟩
theorem kw_1417 : Cond.methodLink RX2 51 Lib.Math.max.name ∈ gWS := List.mem_filter.mpr ⟨(tk_6 _ (List.mem_of_getElem? (i := 25) rfl)), rfl⟩
theorem kw_1418 : Cond.fieldLink RX2 60 "CornerTown$Law" "namesDay" "Z" ∈ gWS := List.mem_filter.mpr ⟨(tk_4 _ (List.mem_of_getElem? (i := 57) rfl)), rfl⟩
theorem kw_1419 : Cond.fieldLink RX2 70 "CornerTown$Town" "day" "I" ∈ gWS := List.mem_filter.mpr ⟨(tk_1 _ (List.mem_of_getElem? (i := 112) rfl)), rfl⟩
theorem kw_1420 : Cond.fieldLink RX2 79 "CornerTown$Town" "standing" "I" ∈ gWS := List.mem_filter.mpr ⟨(tk_1 _ (List.mem_of_getElem? (i := 89) rfl)), rfl⟩
theorem kw_1421 : Cond.methodLink RX2 54 yX10_lawInForce ∈ gWS := List.mem_filter.mpr ⟨(tk_6 _ (List.mem_of_getElem? (i := 26) rfl)), rfl⟩
theorem kw_1422 : Cond.methodLink RX2 66 yX2_drawWater ∈ gWS := List.mem_filter.mpr ⟨(tk_6 _ (List.mem_of_getElem? (i := 27) rfl)), rfl⟩
theorem kw_1423 : Cond.instanceMethod yX2_drawWater ∈ gWS := List.mem_filter.mpr ⟨(tk_6 _ (List.mem_of_getElem? (i := 29) rfl)), rfl⟩
theorem kw_1424 : Cond.selects RX2 yX2_drawWater yX2_drawWater ∈ gWS := List.mem_filter.mpr ⟨(List.mem_append_left _ (List.mem_of_getElem? (i := 50) rfl)), rfl⟩
theorem kw_1425 : Cond.code yX2_drawWater cX2_drawWater 3 (some .int) ∈ gWS := List.mem_filter.mpr ⟨(tk_6 _ (List.mem_of_getElem? (i := 30) rfl)), rfl⟩
theorem kw_1426 : Cond.fieldLink RX2 88 "CornerTown$Town" "houses" "I" ∈ gWS := List.mem_filter.mpr ⟨(tk_1 _ (List.mem_of_getElem? (i := 79) rfl)), rfl⟩
theorem kw_1427 : Cond.constantLong RX2 94 (1103) ∈ gWS := List.mem_filter.mpr ⟨(tk_6 _ (List.mem_of_getElem? (i := 32) rfl)), rfl⟩
theorem kw_1428 : Cond.constantLong RX2 96 (12345) ∈ gWS := List.mem_filter.mpr ⟨(tk_6 _ (List.mem_of_getElem? (i := 33) rfl)), rfl⟩
theorem kw_1429 : Cond.constantLong RX2 98 (1000003) ∈ gWS := List.mem_filter.mpr ⟨(tk_6 _ (List.mem_of_getElem? (i := 34) rfl)), rfl⟩
theorem kw_1430 : Cond.constantLong RX2 100 (4) ∈ gWS := List.mem_filter.mpr ⟨(tk_6 _ (List.mem_of_getElem? (i := 35) rfl)), rfl⟩
theorem kw_1431 : Cond.methodLink RX2 73 yX9_fillOpen ∈ gWS := List.mem_filter.mpr ⟨(tk_6 _ (List.mem_of_getElem? (i := 36) rfl)), rfl⟩
theorem kw_1432 : Cond.methodLink RX2 82 yX0_findParts ∈ gWS := List.mem_filter.mpr ⟨(tk_6 _ (List.mem_of_getElem? (i := 37) rfl)), rfl⟩
theorem kw_1433 : Cond.methodLink RL 161 yX12_flood ∈ gWS := List.mem_filter.mpr ⟨(tk_8 _ (List.mem_of_getElem? (i := 173) rfl)), rfl⟩
theorem kw_1434 : Cond.instanceMethod yX12_flood ∈ gWS := List.mem_filter.mpr ⟨(tk_8 _ (List.mem_of_getElem? (i := 174) rfl)), rfl⟩
theorem kw_1435 : Cond.selects RX12 yX12_flood yX12_flood ∈ gWS := List.mem_filter.mpr ⟨(tk_8 _ (List.mem_of_getElem? (i := 175) rfl)), rfl⟩
theorem kw_1436 : Cond.code yX12_flood cX12_flood 7 (some .int) ∈ gWS := List.mem_filter.mpr ⟨(tk_8 _ (List.mem_of_getElem? (i := 176) rfl)), rfl⟩
theorem kw_1437 : Cond.fieldLink RX12 398 "CornerTownModel" "latest" "I" ∈ gWS := List.mem_filter.mpr ⟨(tk_6 _ (List.mem_of_getElem? (i := 129) rfl)), rfl⟩
theorem kw_1438 : Cond.fieldLink RX12 405 "CornerTownModel" "floodMany" "I" ∈ gWS := List.mem_filter.mpr ⟨(tk_6 _ (List.mem_of_getElem? (i := 128) rfl)), rfl⟩
theorem kw_1439 : Cond.methodLink RX12 408 yX12_draws ∈ gWS := List.mem_filter.mpr ⟨(tk_8 _ (List.mem_of_getElem? (i := 177) rfl)), rfl⟩
theorem kw_1440 : Cond.instanceMethod yX12_draws ∈ gWS := List.mem_filter.mpr ⟨(tk_8 _ (List.mem_of_getElem? (i := 179) rfl)), rfl⟩
theorem kw_1441 : Cond.selects RX12 yX12_draws yX12_draws ∈ gWS := List.mem_filter.mpr ⟨(List.mem_append_left _ (List.mem_of_getElem? (i := 111) rfl)), rfl⟩
theorem kw_1442 : Cond.code yX12_draws cX12_draws 2 (some .int) ∈ gWS := List.mem_filter.mpr ⟨(tk_8 _ (List.mem_of_getElem? (i := 180) rfl)), rfl⟩
theorem kw_1443 : Cond.constantLong RX12 396 (1103) ∈ gWS := List.mem_filter.mpr ⟨(tk_8 _ (List.mem_of_getElem? (i := 181) rfl)), rfl⟩
theorem kw_1444 : Cond.constantLong RX12 401 (12345) ∈ gWS := List.mem_filter.mpr ⟨(tk_8 _ (List.mem_of_getElem? (i := 182) rfl)), rfl⟩
theorem kw_1445 : Cond.constantLong RX12 403 (1000003) ∈ gWS := List.mem_filter.mpr ⟨(tk_8 _ (List.mem_of_getElem? (i := 183) rfl)), rfl⟩
theorem kw_1446 : Cond.methodLink RL 162 yX11_flooded ∈ gWS := List.mem_filter.mpr ⟨(tk_6 _ (List.mem_of_getElem? (i := 38) rfl)), rfl⟩
theorem kw_1447 : Cond.instanceMethod yX11_flooded ∈ gWS := List.mem_filter.mpr ⟨(tk_6 _ (List.mem_of_getElem? (i := 39) rfl)), rfl⟩
theorem kw_1448 : Cond.selects RX11 yX11_flooded yX11_flooded ∈ gWS := List.mem_filter.mpr ⟨(tk_6 _ (List.mem_of_getElem? (i := 40) rfl)), rfl⟩
theorem kw_1449 : Cond.code yX11_flooded cX11_flooded 3 (some .int) ∈ gWS := List.mem_filter.mpr ⟨(tk_6 _ (List.mem_of_getElem? (i := 41) rfl)), rfl⟩
theorem kw_1450 : Cond.methodLink RX11 345 yX2_tell ∈ gWS := List.mem_filter.mpr ⟨(tk_6 _ (List.mem_of_getElem? (i := 42) rfl)), rfl⟩
theorem kw_1451 : Cond.instanceMethod yX2_tell ∈ gWS := List.mem_filter.mpr ⟨(tk_6 _ (List.mem_of_getElem? (i := 43) rfl)), rfl⟩
theorem kw_1452 : Cond.selects RX2 yX2_tell yX2_tell ∈ gWS := List.mem_filter.mpr ⟨(tk_6 _ (List.mem_of_getElem? (i := 44) rfl)), rfl⟩
theorem kw_1453 : Cond.code yX2_tell cX2_tell 3 (some .int) ∈ gWS := List.mem_filter.mpr ⟨(tk_6 _ (List.mem_of_getElem? (i := 45) rfl)), rfl⟩
theorem kw_1454 : Cond.methodLink RL 165 yX12_flooded ∈ gWS := List.mem_filter.mpr ⟨(tk_8 _ (List.mem_of_getElem? (i := 184) rfl)), rfl⟩
theorem kw_1455 : Cond.instanceMethod yX12_flooded ∈ gWS := List.mem_filter.mpr ⟨(tk_8 _ (List.mem_of_getElem? (i := 185) rfl)), rfl⟩
theorem kw_1456 : Cond.selects RX12 yX12_flooded yX12_flooded ∈ gWS := List.mem_filter.mpr ⟨(tk_8 _ (List.mem_of_getElem? (i := 186) rfl)), rfl⟩
theorem kw_1457 : Cond.code yX12_flooded cX12_flooded 3 (some .int) ∈ gWS := List.mem_filter.mpr ⟨(tk_8 _ (List.mem_of_getElem? (i := 187) rfl)), rfl⟩
theorem kw_1458 : Cond.methodLink RL 166 yX11_image ∈ gWS := List.mem_filter.mpr ⟨(tk_6 _ (List.mem_of_getElem? (i := 47) rfl)), rfl⟩
theorem kw_1459 : Cond.instanceMethod yX11_image ∈ gWS := List.mem_filter.mpr ⟨(tk_6 _ (List.mem_of_getElem? (i := 48) rfl)), rfl⟩
theorem kw_1460 : Cond.selects RX11 yX11_image yX11_image ∈ gWS := List.mem_filter.mpr ⟨(tk_6 _ (List.mem_of_getElem? (i := 49) rfl)), rfl⟩
theorem kw_1461 : Cond.code yX11_image cX11_image 2 (some .int) ∈ gWS := List.mem_filter.mpr ⟨(tk_6 _ (List.mem_of_getElem? (i := 50) rfl)), rfl⟩
theorem kw_1462 : Cond.methodLink RX11 348 yX10_becomeLike ∈ gWS := List.mem_filter.mpr ⟨(tk_6 _ (List.mem_of_getElem? (i := 51) rfl)), rfl⟩
theorem kw_1463 : Cond.instanceMethod yX10_becomeLike ∈ gWS := List.mem_filter.mpr ⟨(tk_6 _ (List.mem_of_getElem? (i := 52) rfl)), rfl⟩
theorem kw_1464 : Cond.selects RX10 yX10_becomeLike yX10_becomeLike ∈ gWS := List.mem_filter.mpr ⟨(tk_6 _ (List.mem_of_getElem? (i := 53) rfl)), rfl⟩
theorem kw_1465 : Cond.code yX10_becomeLike cX10_becomeLike 3 none ∈ gWS := List.mem_filter.mpr ⟨(tk_6 _ (List.mem_of_getElem? (i := 54) rfl)), rfl⟩
theorem kw_1466 : Cond.methodLink RX10 104 arraycopyName ∈ gWS := List.mem_filter.mpr ⟨(tk_6 _ (List.mem_of_getElem? (i := 55) rfl)), rfl⟩
theorem kw_1467 : Cond.methodLink RX10 110 yX5_becomeLike ∈ gWS := List.mem_filter.mpr ⟨(tk_6 _ (List.mem_of_getElem? (i := 56) rfl)), rfl⟩
theorem kw_1468 : Cond.instanceMethod yX5_becomeLike ∈ gWS := List.mem_filter.mpr ⟨(tk_6 _ (List.mem_of_getElem? (i := 57) rfl)), rfl⟩
theorem kw_1469 : Cond.selects RX5 yX5_becomeLike yX5_becomeLike ∈ gWS := List.mem_filter.mpr ⟨(tk_6 _ (List.mem_of_getElem? (i := 58) rfl)), rfl⟩
theorem kw_1470 : Cond.code yX5_becomeLike cX5_becomeLike 3 none ∈ gWS := List.mem_filter.mpr ⟨(tk_6 _ (List.mem_of_getElem? (i := 59) rfl)), rfl⟩
theorem kw_1471 : Cond.methodLink RX5 26 yX5_keep ∈ gWS := List.mem_filter.mpr ⟨(tk_6 _ (List.mem_of_getElem? (i := 60) rfl)), rfl⟩
theorem kw_1472 : Cond.methodLink RL 169 yX12_image ∈ gWS := List.mem_filter.mpr ⟨(tk_6 _ (List.mem_of_getElem? (i := 232) rfl)), rfl⟩
theorem kw_1473 : Cond.instanceMethod yX12_image ∈ gWS := List.mem_filter.mpr ⟨(tk_6 _ (List.mem_of_getElem? (i := 233) rfl)), rfl⟩
theorem kw_1474 : Cond.selects RX12 yX12_image yX12_image ∈ gWS := List.mem_filter.mpr ⟨(tk_6 _ (List.mem_of_getElem? (i := 234) rfl)), rfl⟩
theorem kw_1475 : Cond.code yX12_image cX12_image 3 (some .int) ∈ gWS := List.mem_filter.mpr ⟨(tk_6 _ (List.mem_of_getElem? (i := 235) rfl)), rfl⟩
theorem kw_1476 : Cond.methodLink RL 170 yX11_back ∈ gWS := List.mem_filter.mpr ⟨(tk_6 _ (List.mem_of_getElem? (i := 61) rfl)), rfl⟩
theorem kw_1477 : Cond.instanceMethod yX11_back ∈ gWS := List.mem_filter.mpr ⟨(tk_6 _ (List.mem_of_getElem? (i := 62) rfl)), rfl⟩
theorem kw_1478 : Cond.selects RX11 yX11_back yX11_back ∈ gWS := List.mem_filter.mpr ⟨(tk_6 _ (List.mem_of_getElem? (i := 63) rfl)), rfl⟩
theorem kw_1479 : Cond.code yX11_back cX11_back 2 (some .int) ∈ gWS := List.mem_filter.mpr ⟨(tk_6 _ (List.mem_of_getElem? (i := 64) rfl)), rfl⟩
theorem kw_1480 : Cond.methodLink RL 173 yX12_back ∈ gWS := List.mem_filter.mpr ⟨(tk_7 _ (List.mem_of_getElem? (i := 7) rfl)), rfl⟩
theorem kw_1481 : Cond.instanceMethod yX12_back ∈ gWS := List.mem_filter.mpr ⟨(tk_7 _ (List.mem_of_getElem? (i := 8) rfl)), rfl⟩
theorem kw_1482 : Cond.selects RX12 yX12_back yX12_back ∈ gWS := List.mem_filter.mpr ⟨(tk_7 _ (List.mem_of_getElem? (i := 9) rfl)), rfl⟩
theorem kw_1483 : Cond.code yX12_back cX12_back 3 (some .int) ∈ gWS := List.mem_filter.mpr ⟨(tk_7 _ (List.mem_of_getElem? (i := 10) rfl)), rfl⟩
theorem kw_1484 : Cond.methodLink RL 174 yX11_count ∈ gWS := List.mem_filter.mpr ⟨(tk_6 _ (List.mem_of_getElem? (i := 65) rfl)), rfl⟩
theorem kw_1485 : Cond.instanceMethod yX11_count ∈ gWS := List.mem_filter.mpr ⟨(tk_6 _ (List.mem_of_getElem? (i := 66) rfl)), rfl⟩
theorem kw_1486 : Cond.selects RX11 yX11_count yX11_count ∈ gWS := List.mem_filter.mpr ⟨(tk_6 _ (List.mem_of_getElem? (i := 67) rfl)), rfl⟩
theorem kw_1487 : Cond.code yX11_count cX11_count 2 (some .int) ∈ gWS := List.mem_filter.mpr ⟨(tk_6 _ (List.mem_of_getElem? (i := 68) rfl)), rfl⟩
theorem kw_1488 : Cond.methodLink RL 177 yX12_count ∈ gWS := List.mem_filter.mpr ⟨(tk_8 _ (List.mem_of_getElem? (i := 188) rfl)), rfl⟩
theorem kw_1489 : Cond.instanceMethod yX12_count ∈ gWS := List.mem_filter.mpr ⟨(tk_8 _ (List.mem_of_getElem? (i := 189) rfl)), rfl⟩
theorem kw_1490 : Cond.selects RX12 yX12_count yX12_count ∈ gWS := List.mem_filter.mpr ⟨(tk_8 _ (List.mem_of_getElem? (i := 190) rfl)), rfl⟩
theorem kw_1491 : Cond.code yX12_count cX12_count 2 (some .int) ∈ gWS := List.mem_filter.mpr ⟨(tk_8 _ (List.mem_of_getElem? (i := 191) rfl)), rfl⟩
theorem kw_1492 : Cond.methodLink RL 178 yX11_status ∈ gWS := List.mem_filter.mpr ⟨(tk_6 _ (List.mem_of_getElem? (i := 69) rfl)), rfl⟩
theorem kw_1493 : Cond.instanceMethod yX11_status ∈ gWS := List.mem_filter.mpr ⟨(tk_6 _ (List.mem_of_getElem? (i := 70) rfl)), rfl⟩
theorem kw_1494 : Cond.selects RX11 yX11_status yX11_status ∈ gWS := List.mem_filter.mpr ⟨(tk_6 _ (List.mem_of_getElem? (i := 71) rfl)), rfl⟩
theorem kw_1495 : Cond.code yX11_status cX11_status 1 (some .int) ∈ gWS := List.mem_filter.mpr ⟨(tk_6 _ (List.mem_of_getElem? (i := 72) rfl)), rfl⟩
theorem kw_1496 : Cond.methodLink RL 181 yX12_status ∈ gWS := List.mem_filter.mpr ⟨(tk_8 _ (List.mem_of_getElem? (i := 192) rfl)), rfl⟩
theorem kw_1497 : Cond.instanceMethod yX12_status ∈ gWS := List.mem_filter.mpr ⟨(tk_8 _ (List.mem_of_getElem? (i := 193) rfl)), rfl⟩
theorem kw_1498 : Cond.selects RX12 yX12_status yX12_status ∈ gWS := List.mem_filter.mpr ⟨(tk_8 _ (List.mem_of_getElem? (i := 194) rfl)), rfl⟩
theorem kw_1499 : Cond.code yX12_status cX12_status 1 (some .int) ∈ gWS := List.mem_filter.mpr ⟨(tk_8 _ (List.mem_of_getElem? (i := 195) rfl)), rfl⟩
theorem ly_0_0 : u_lay RX0 TX0 0 ∈ gWS := List.mem_filter.mpr ⟨(tk_2 _ (List.mem_of_getElem? (i := 45) rfl)), rfl⟩
theorem ly_0_1 : u_lay RX0 TX0 1 ∈ gWS := List.mem_filter.mpr ⟨(tk_2 _ (List.mem_of_getElem? (i := 47) rfl)), rfl⟩
theorem ly_0_2 : u_lay RX0 TX0 2 ∈ gWS := List.mem_filter.mpr ⟨(tk_2 _ (List.mem_of_getElem? (i := 49) rfl)), rfl⟩
theorem ly_0_3 : u_lay RX0 TX0 3 ∈ gWS := List.mem_filter.mpr ⟨(tk_2 _ (List.mem_of_getElem? (i := 51) rfl)), rfl⟩
theorem ly_0_4 : u_lay RX0 TX0 4 ∈ gWS := List.mem_filter.mpr ⟨(tk_2 _ (List.mem_of_getElem? (i := 53) rfl)), rfl⟩
theorem ly_0_5 : u_lay RX0 TX0 5 ∈ gWS := List.mem_filter.mpr ⟨(tk_2 _ (List.mem_of_getElem? (i := 55) rfl)), rfl⟩
theorem ly_0_6 : u_lay RX0 TX0 6 ∈ gWS := List.mem_filter.mpr ⟨(tk_2 _ (List.mem_of_getElem? (i := 57) rfl)), rfl⟩
theorem ly_0_7 : u_lay RX0 TX0 7 ∈ gWS := List.mem_filter.mpr ⟨(tk_2 _ (List.mem_of_getElem? (i := 59) rfl)), rfl⟩
theorem in_0 : ∀ w ∈ u_ws RX0 TX0 8, w ∈ gWS := by
  intro w hw
  obtain ⟨k, hk, rfl⟩ := List.mem_map.mp hw
  exact ((lt_s (lt_s (lt_s (lt_s (lt_s (lt_s (lt_s (lt_s (lt_0 (p := fun k => u_lay RX0 TX0 k ∈ gWS)) ly_0_0) ly_0_1) ly_0_2) ly_0_3) ly_0_4) ly_0_5) ly_0_6) ly_0_7) : ∀ k, k < 8 → u_lay RX0 TX0 k ∈ gWS) k (List.mem_range.mp hk)
theorem ly_1_0 : u_lay RX1 TX1 0 ∈ gWS := List.mem_filter.mpr ⟨(tk_2 _ (List.mem_of_getElem? (i := 79) rfl)), rfl⟩
theorem ly_1_1 : u_lay RX1 TX1 1 ∈ gWS := List.mem_filter.mpr ⟨(tk_2 _ (List.mem_of_getElem? (i := 81) rfl)), rfl⟩
theorem ly_1_2 : u_lay RX1 TX1 2 ∈ gWS := List.mem_filter.mpr ⟨(tk_2 _ (List.mem_of_getElem? (i := 83) rfl)), rfl⟩
theorem ly_1_3 : u_lay RX1 TX1 3 ∈ gWS := List.mem_filter.mpr ⟨(tk_2 _ (List.mem_of_getElem? (i := 85) rfl)), rfl⟩
theorem ly_1_4 : u_lay RX1 TX1 4 ∈ gWS := List.mem_filter.mpr ⟨(tk_2 _ (List.mem_of_getElem? (i := 87) rfl)), rfl⟩
theorem ly_1_5 : u_lay RX1 TX1 5 ∈ gWS := List.mem_filter.mpr ⟨(tk_2 _ (List.mem_of_getElem? (i := 89) rfl)), rfl⟩
theorem ly_1_6 : u_lay RX1 TX1 6 ∈ gWS := List.mem_filter.mpr ⟨(tk_2 _ (List.mem_of_getElem? (i := 91) rfl)), rfl⟩
theorem ly_1_7 : u_lay RX1 TX1 7 ∈ gWS := List.mem_filter.mpr ⟨(tk_2 _ (List.mem_of_getElem? (i := 93) rfl)), rfl⟩
theorem ly_1_8 : u_lay RX1 TX1 8 ∈ gWS := List.mem_filter.mpr ⟨(tk_2 _ (List.mem_of_getElem? (i := 95) rfl)), rfl⟩
theorem in_1 : ∀ w ∈ u_ws RX1 TX1 9, w ∈ gWS := by
  intro w hw
  obtain ⟨k, hk, rfl⟩ := List.mem_map.mp hw
  exact ((lt_s (lt_s (lt_s (lt_s (lt_s (lt_s (lt_s (lt_s (lt_s (lt_0 (p := fun k => u_lay RX1 TX1 k ∈ gWS)) ly_1_0) ly_1_1) ly_1_2) ly_1_3) ly_1_4) ly_1_5) ly_1_6) ly_1_7) ly_1_8) : ∀ k, k < 9 → u_lay RX1 TX1 k ∈ gWS) k (List.mem_range.mp hk)
theorem ly_2_0 : u_lay RX2 TX2 0 ∈ gWS := List.mem_filter.mpr ⟨(tk_2 _ (List.mem_of_getElem? (i := 194) rfl)), rfl⟩
theorem ly_2_1 : u_lay RX2 TX2 1 ∈ gWS := List.mem_filter.mpr ⟨(tk_2 _ (List.mem_of_getElem? (i := 196) rfl)), rfl⟩
theorem ly_2_2 : u_lay RX2 TX2 2 ∈ gWS := List.mem_filter.mpr ⟨(tk_2 _ (List.mem_of_getElem? (i := 198) rfl)), rfl⟩
theorem ly_2_3 : u_lay RX2 TX2 3 ∈ gWS := List.mem_filter.mpr ⟨(tk_2 _ (List.mem_of_getElem? (i := 200) rfl)), rfl⟩
theorem ly_2_4 : u_lay RX2 TX2 4 ∈ gWS := List.mem_filter.mpr ⟨(tk_2 _ (List.mem_of_getElem? (i := 202) rfl)), rfl⟩
theorem ly_2_5 : u_lay RX2 TX2 5 ∈ gWS := List.mem_filter.mpr ⟨(tk_2 _ (List.mem_of_getElem? (i := 204) rfl)), rfl⟩
theorem ly_2_6 : u_lay RX2 TX2 6 ∈ gWS := List.mem_filter.mpr ⟨(tk_2 _ (List.mem_of_getElem? (i := 206) rfl)), rfl⟩
theorem ly_2_7 : u_lay RX2 TX2 7 ∈ gWS := List.mem_filter.mpr ⟨(tk_2 _ (List.mem_of_getElem? (i := 208) rfl)), rfl⟩
theorem in_2 : ∀ w ∈ u_ws RX2 TX2 8, w ∈ gWS := by
  intro w hw
  obtain ⟨k, hk, rfl⟩ := List.mem_map.mp hw
  exact ((lt_s (lt_s (lt_s (lt_s (lt_s (lt_s (lt_s (lt_s (lt_0 (p := fun k => u_lay RX2 TX2 k ∈ gWS)) ly_2_0) ly_2_1) ly_2_2) ly_2_3) ly_2_4) ly_2_5) ly_2_6) ly_2_7) : ∀ k, k < 8 → u_lay RX2 TX2 k ∈ gWS) k (List.mem_range.mp hk)
theorem ly_3_0 : u_lay RX3 TX3 0 ∈ gWS := List.mem_filter.mpr ⟨(tk_4 _ (List.mem_of_getElem? (i := 58) rfl)), rfl⟩
theorem ly_3_1 : u_lay RX3 TX3 1 ∈ gWS := List.mem_filter.mpr ⟨(tk_4 _ (List.mem_of_getElem? (i := 60) rfl)), rfl⟩
theorem ly_3_2 : u_lay RX3 TX3 2 ∈ gWS := List.mem_filter.mpr ⟨(tk_4 _ (List.mem_of_getElem? (i := 62) rfl)), rfl⟩
theorem ly_3_3 : u_lay RX3 TX3 3 ∈ gWS := List.mem_filter.mpr ⟨(tk_4 _ (List.mem_of_getElem? (i := 64) rfl)), rfl⟩
theorem ly_3_4 : u_lay RX3 TX3 4 ∈ gWS := List.mem_filter.mpr ⟨(tk_4 _ (List.mem_of_getElem? (i := 66) rfl)), rfl⟩
theorem in_3 : ∀ w ∈ u_ws RX3 TX3 5, w ∈ gWS := by
  intro w hw
  obtain ⟨k, hk, rfl⟩ := List.mem_map.mp hw
  exact ((lt_s (lt_s (lt_s (lt_s (lt_s (lt_0 (p := fun k => u_lay RX3 TX3 k ∈ gWS)) ly_3_0) ly_3_1) ly_3_2) ly_3_3) ly_3_4) : ∀ k, k < 5 → u_lay RX3 TX3 k ∈ gWS) k (List.mem_range.mp hk)
theorem ly_4_0 : u_lay RX4 TX4 0 ∈ gWS := List.mem_filter.mpr ⟨(tk_2 _ (List.mem_of_getElem? (i := 117) rfl)), rfl⟩
theorem ly_4_1 : u_lay RX4 TX4 1 ∈ gWS := List.mem_filter.mpr ⟨(tk_2 _ (List.mem_of_getElem? (i := 119) rfl)), rfl⟩
theorem ly_4_2 : u_lay RX4 TX4 2 ∈ gWS := List.mem_filter.mpr ⟨(tk_2 _ (List.mem_of_getElem? (i := 121) rfl)), rfl⟩
theorem ly_4_3 : u_lay RX4 TX4 3 ∈ gWS := List.mem_filter.mpr ⟨(tk_2 _ (List.mem_of_getElem? (i := 123) rfl)), rfl⟩
theorem ly_4_4 : u_lay RX4 TX4 4 ∈ gWS := List.mem_filter.mpr ⟨(tk_2 _ (List.mem_of_getElem? (i := 125) rfl)), rfl⟩
theorem ly_4_5 : u_lay RX4 TX4 5 ∈ gWS := List.mem_filter.mpr ⟨(tk_2 _ (List.mem_of_getElem? (i := 127) rfl)), rfl⟩
theorem ly_4_6 : u_lay RX4 TX4 6 ∈ gWS := List.mem_filter.mpr ⟨(tk_2 _ (List.mem_of_getElem? (i := 129) rfl)), rfl⟩
theorem ly_4_7 : u_lay RX4 TX4 7 ∈ gWS := List.mem_filter.mpr ⟨(tk_2 _ (List.mem_of_getElem? (i := 131) rfl)), rfl⟩
theorem ly_4_8 : u_lay RX4 TX4 8 ∈ gWS := List.mem_filter.mpr ⟨(tk_2 _ (List.mem_of_getElem? (i := 133) rfl)), rfl⟩
theorem in_4 : ∀ w ∈ u_ws RX4 TX4 9, w ∈ gWS := by
  intro w hw
  obtain ⟨k, hk, rfl⟩ := List.mem_map.mp hw
  exact ((lt_s (lt_s (lt_s (lt_s (lt_s (lt_s (lt_s (lt_s (lt_s (lt_0 (p := fun k => u_lay RX4 TX4 k ∈ gWS)) ly_4_0) ly_4_1) ly_4_2) ly_4_3) ly_4_4) ly_4_5) ly_4_6) ly_4_7) ly_4_8) : ∀ k, k < 9 → u_lay RX4 TX4 k ∈ gWS) k (List.mem_range.mp hk)
theorem ly_5_0 : u_lay RX5 TX5 0 ∈ gWS := List.mem_filter.mpr ⟨(tk_1 _ (List.mem_of_getElem? (i := 57) rfl)), rfl⟩
theorem ly_5_1 : u_lay RX5 TX5 1 ∈ gWS := List.mem_filter.mpr ⟨(tk_1 _ (List.mem_of_getElem? (i := 59) rfl)), rfl⟩
theorem ly_5_2 : u_lay RX5 TX5 2 ∈ gWS := List.mem_filter.mpr ⟨(tk_1 _ (List.mem_of_getElem? (i := 61) rfl)), rfl⟩
theorem in_5 : ∀ w ∈ u_ws RX5 TX5 3, w ∈ gWS := by
  intro w hw
  obtain ⟨k, hk, rfl⟩ := List.mem_map.mp hw
  exact ((lt_s (lt_s (lt_s (lt_0 (p := fun k => u_lay RX5 TX5 k ∈ gWS)) ly_5_0) ly_5_1) ly_5_2) : ∀ k, k < 3 → u_lay RX5 TX5 k ∈ gWS) k (List.mem_range.mp hk)
theorem ly_6_0 : u_lay RX6 TX6 0 ∈ gWS := List.mem_filter.mpr ⟨(tk_1 _ (List.mem_of_getElem? (i := 186) rfl)), rfl⟩
theorem ly_6_1 : u_lay RX6 TX6 1 ∈ gWS := List.mem_filter.mpr ⟨(tk_1 _ (List.mem_of_getElem? (i := 188) rfl)), rfl⟩
theorem ly_6_2 : u_lay RX6 TX6 2 ∈ gWS := List.mem_filter.mpr ⟨(tk_1 _ (List.mem_of_getElem? (i := 190) rfl)), rfl⟩
theorem ly_6_3 : u_lay RX6 TX6 3 ∈ gWS := List.mem_filter.mpr ⟨(tk_1 _ (List.mem_of_getElem? (i := 192) rfl)), rfl⟩
theorem ly_6_4 : u_lay RX6 TX6 4 ∈ gWS := List.mem_filter.mpr ⟨(tk_1 _ (List.mem_of_getElem? (i := 194) rfl)), rfl⟩
theorem ly_6_5 : u_lay RX6 TX6 5 ∈ gWS := List.mem_filter.mpr ⟨(tk_1 _ (List.mem_of_getElem? (i := 196) rfl)), rfl⟩
theorem ly_6_6 : u_lay RX6 TX6 6 ∈ gWS := List.mem_filter.mpr ⟨(tk_1 _ (List.mem_of_getElem? (i := 198) rfl)), rfl⟩
theorem ly_6_7 : u_lay RX6 TX6 7 ∈ gWS := List.mem_filter.mpr ⟨(tk_1 _ (List.mem_of_getElem? (i := 200) rfl)), rfl⟩
theorem ly_6_8 : u_lay RX6 TX6 8 ∈ gWS := List.mem_filter.mpr ⟨(tk_1 _ (List.mem_of_getElem? (i := 202) rfl)), rfl⟩
theorem ly_6_9 : u_lay RX6 TX6 9 ∈ gWS := List.mem_filter.mpr ⟨(tk_1 _ (List.mem_of_getElem? (i := 204) rfl)), rfl⟩
theorem ly_6_10 : u_lay RX6 TX6 10 ∈ gWS := List.mem_filter.mpr ⟨(tk_1 _ (List.mem_of_getElem? (i := 206) rfl)), rfl⟩
theorem ly_6_11 : u_lay RX6 TX6 11 ∈ gWS := List.mem_filter.mpr ⟨(tk_1 _ (List.mem_of_getElem? (i := 208) rfl)), rfl⟩
theorem ly_6_12 : u_lay RX6 TX6 12 ∈ gWS := List.mem_filter.mpr ⟨(tk_1 _ (List.mem_of_getElem? (i := 210) rfl)), rfl⟩
theorem in_6 : ∀ w ∈ u_ws RX6 TX6 13, w ∈ gWS := by
  intro w hw
  obtain ⟨k, hk, rfl⟩ := List.mem_map.mp hw
  exact ((lt_s (lt_s (lt_s (lt_s (lt_s (lt_s (lt_s (lt_s (lt_s (lt_s (lt_s (lt_s (lt_s (lt_0 (p := fun k => u_lay RX6 TX6 k ∈ gWS)) ly_6_0) ly_6_1) ly_6_2) ly_6_3) ly_6_4) ly_6_5) ly_6_6) ly_6_7) ly_6_8) ly_6_9) ly_6_10) ly_6_11) ly_6_12) : ∀ k, k < 13 → u_lay RX6 TX6 k ∈ gWS) k (List.mem_range.mp hk)
theorem ly_7_0 : u_lay RX7 TX7 0 ∈ gWS := List.mem_filter.mpr ⟨(tk_1 _ (List.mem_of_getElem? (i := 229) rfl)), rfl⟩
theorem ly_7_1 : u_lay RX7 TX7 1 ∈ gWS := List.mem_filter.mpr ⟨(tk_1 _ (List.mem_of_getElem? (i := 231) rfl)), rfl⟩
theorem ly_7_2 : u_lay RX7 TX7 2 ∈ gWS := List.mem_filter.mpr ⟨(tk_1 _ (List.mem_of_getElem? (i := 233) rfl)), rfl⟩
theorem ly_7_3 : u_lay RX7 TX7 3 ∈ gWS := List.mem_filter.mpr ⟨(tk_1 _ (List.mem_of_getElem? (i := 235) rfl)), rfl⟩
theorem in_7 : ∀ w ∈ u_ws RX7 TX7 4, w ∈ gWS := by
  intro w hw
  obtain ⟨k, hk, rfl⟩ := List.mem_map.mp hw
  exact ((lt_s (lt_s (lt_s (lt_s (lt_0 (p := fun k => u_lay RX7 TX7 k ∈ gWS)) ly_7_0) ly_7_1) ly_7_2) ly_7_3) : ∀ k, k < 4 → u_lay RX7 TX7 k ∈ gWS) k (List.mem_range.mp hk)
theorem ly_8_0 : u_lay RX8 TX8 0 ∈ gWS := List.mem_filter.mpr ⟨(tk_2 _ (List.mem_of_getElem? (i := 155) rfl)), rfl⟩
theorem ly_8_1 : u_lay RX8 TX8 1 ∈ gWS := List.mem_filter.mpr ⟨(tk_2 _ (List.mem_of_getElem? (i := 157) rfl)), rfl⟩
theorem ly_8_2 : u_lay RX8 TX8 2 ∈ gWS := List.mem_filter.mpr ⟨(tk_2 _ (List.mem_of_getElem? (i := 159) rfl)), rfl⟩
theorem ly_8_3 : u_lay RX8 TX8 3 ∈ gWS := List.mem_filter.mpr ⟨(tk_2 _ (List.mem_of_getElem? (i := 161) rfl)), rfl⟩
theorem ly_8_4 : u_lay RX8 TX8 4 ∈ gWS := List.mem_filter.mpr ⟨(tk_2 _ (List.mem_of_getElem? (i := 163) rfl)), rfl⟩
theorem ly_8_5 : u_lay RX8 TX8 5 ∈ gWS := List.mem_filter.mpr ⟨(tk_2 _ (List.mem_of_getElem? (i := 165) rfl)), rfl⟩
theorem ly_8_6 : u_lay RX8 TX8 6 ∈ gWS := List.mem_filter.mpr ⟨(tk_2 _ (List.mem_of_getElem? (i := 167) rfl)), rfl⟩
theorem ly_8_7 : u_lay RX8 TX8 7 ∈ gWS := List.mem_filter.mpr ⟨(tk_2 _ (List.mem_of_getElem? (i := 169) rfl)), rfl⟩
theorem ly_8_8 : u_lay RX8 TX8 8 ∈ gWS := List.mem_filter.mpr ⟨(tk_2 _ (List.mem_of_getElem? (i := 171) rfl)), rfl⟩
theorem ly_8_9 : u_lay RX8 TX8 9 ∈ gWS := List.mem_filter.mpr ⟨(tk_2 _ (List.mem_of_getElem? (i := 173) rfl)), rfl⟩
theorem ly_8_10 : u_lay RX8 TX8 10 ∈ gWS := List.mem_filter.mpr ⟨(tk_2 _ (List.mem_of_getElem? (i := 175) rfl)), rfl⟩
theorem ly_8_11 : u_lay RX8 TX8 11 ∈ gWS := List.mem_filter.mpr ⟨(tk_2 _ (List.mem_of_getElem? (i := 177) rfl)), rfl⟩
theorem in_8 : ∀ w ∈ u_ws RX8 TX8 12, w ∈ gWS := by
  intro w hw
  obtain ⟨k, hk, rfl⟩ := List.mem_map.mp hw
  exact ((lt_s (lt_s (lt_s (lt_s (lt_s (lt_s (lt_s (lt_s (lt_s (lt_s (lt_s (lt_s (lt_0 (p := fun k => u_lay RX8 TX8 k ∈ gWS)) ly_8_0) ly_8_1) ly_8_2) ly_8_3) ly_8_4) ly_8_5) ly_8_6) ly_8_7) ly_8_8) ly_8_9) ly_8_10) ly_8_11) : ∀ k, k < 12 → u_lay RX8 TX8 k ∈ gWS) k (List.mem_range.mp hk)
theorem ly_9_0 : u_lay RX9 TX9 0 ∈ gWS := List.mem_filter.mpr ⟨(tk_2 _ (List.mem_of_getElem? (i := 8) rfl)), rfl⟩
theorem ly_9_1 : u_lay RX9 TX9 1 ∈ gWS := List.mem_filter.mpr ⟨(tk_2 _ (List.mem_of_getElem? (i := 10) rfl)), rfl⟩
theorem ly_9_2 : u_lay RX9 TX9 2 ∈ gWS := List.mem_filter.mpr ⟨(tk_2 _ (List.mem_of_getElem? (i := 12) rfl)), rfl⟩
theorem ly_9_3 : u_lay RX9 TX9 3 ∈ gWS := List.mem_filter.mpr ⟨(tk_2 _ (List.mem_of_getElem? (i := 14) rfl)), rfl⟩
theorem ly_9_4 : u_lay RX9 TX9 4 ∈ gWS := List.mem_filter.mpr ⟨(tk_2 _ (List.mem_of_getElem? (i := 16) rfl)), rfl⟩
theorem ly_9_5 : u_lay RX9 TX9 5 ∈ gWS := List.mem_filter.mpr ⟨(tk_2 _ (List.mem_of_getElem? (i := 18) rfl)), rfl⟩
theorem ly_9_6 : u_lay RX9 TX9 6 ∈ gWS := List.mem_filter.mpr ⟨(tk_2 _ (List.mem_of_getElem? (i := 20) rfl)), rfl⟩
theorem ly_9_7 : u_lay RX9 TX9 7 ∈ gWS := List.mem_filter.mpr ⟨(tk_2 _ (List.mem_of_getElem? (i := 22) rfl)), rfl⟩
theorem ly_9_8 : u_lay RX9 TX9 8 ∈ gWS := List.mem_filter.mpr ⟨(tk_2 _ (List.mem_of_getElem? (i := 24) rfl)), rfl⟩
theorem in_9 : ∀ w ∈ u_ws RX9 TX9 9, w ∈ gWS := by
  intro w hw
  obtain ⟨k, hk, rfl⟩ := List.mem_map.mp hw
  exact ((lt_s (lt_s (lt_s (lt_s (lt_s (lt_s (lt_s (lt_s (lt_s (lt_0 (p := fun k => u_lay RX9 TX9 k ∈ gWS)) ly_9_0) ly_9_1) ly_9_2) ly_9_3) ly_9_4) ly_9_5) ly_9_6) ly_9_7) ly_9_8) : ∀ k, k < 9 → u_lay RX9 TX9 k ∈ gWS) k (List.mem_range.mp hk)
theorem ly_10_0 : u_lay RX10 TX10 0 ∈ gWS := List.mem_filter.mpr ⟨(tk_1 _ (List.mem_of_getElem? (i := 129) rfl)), rfl⟩
theorem ly_10_1 : u_lay RX10 TX10 1 ∈ gWS := List.mem_filter.mpr ⟨(tk_1 _ (List.mem_of_getElem? (i := 131) rfl)), rfl⟩
theorem ly_10_2 : u_lay RX10 TX10 2 ∈ gWS := List.mem_filter.mpr ⟨(tk_1 _ (List.mem_of_getElem? (i := 133) rfl)), rfl⟩
theorem ly_10_3 : u_lay RX10 TX10 3 ∈ gWS := List.mem_filter.mpr ⟨(tk_1 _ (List.mem_of_getElem? (i := 135) rfl)), rfl⟩
theorem ly_10_4 : u_lay RX10 TX10 4 ∈ gWS := List.mem_filter.mpr ⟨(tk_1 _ (List.mem_of_getElem? (i := 137) rfl)), rfl⟩
theorem ly_10_5 : u_lay RX10 TX10 5 ∈ gWS := List.mem_filter.mpr ⟨(tk_1 _ (List.mem_of_getElem? (i := 139) rfl)), rfl⟩
theorem ly_10_6 : u_lay RX10 TX10 6 ∈ gWS := List.mem_filter.mpr ⟨(tk_1 _ (List.mem_of_getElem? (i := 141) rfl)), rfl⟩
theorem ly_10_7 : u_lay RX10 TX10 7 ∈ gWS := List.mem_filter.mpr ⟨(tk_1 _ (List.mem_of_getElem? (i := 143) rfl)), rfl⟩
theorem ly_10_8 : u_lay RX10 TX10 8 ∈ gWS := List.mem_filter.mpr ⟨(tk_1 _ (List.mem_of_getElem? (i := 145) rfl)), rfl⟩
theorem ly_10_9 : u_lay RX10 TX10 9 ∈ gWS := List.mem_filter.mpr ⟨(tk_1 _ (List.mem_of_getElem? (i := 147) rfl)), rfl⟩
theorem ly_10_10 : u_lay RX10 TX10 10 ∈ gWS := List.mem_filter.mpr ⟨(tk_1 _ (List.mem_of_getElem? (i := 149) rfl)), rfl⟩
theorem ly_10_11 : u_lay RX10 TX10 11 ∈ gWS := List.mem_filter.mpr ⟨(tk_1 _ (List.mem_of_getElem? (i := 151) rfl)), rfl⟩
theorem ly_10_12 : u_lay RX10 TX10 12 ∈ gWS := List.mem_filter.mpr ⟨(tk_1 _ (List.mem_of_getElem? (i := 153) rfl)), rfl⟩
theorem ly_10_13 : u_lay RX10 TX10 13 ∈ gWS := List.mem_filter.mpr ⟨(tk_1 _ (List.mem_of_getElem? (i := 155) rfl)), rfl⟩
theorem ly_10_14 : u_lay RX10 TX10 14 ∈ gWS := List.mem_filter.mpr ⟨(tk_1 _ (List.mem_of_getElem? (i := 157) rfl)), rfl⟩
theorem ly_10_15 : u_lay RX10 TX10 15 ∈ gWS := List.mem_filter.mpr ⟨(tk_1 _ (List.mem_of_getElem? (i := 159) rfl)), rfl⟩
theorem ly_10_16 : u_lay RX10 TX10 16 ∈ gWS := List.mem_filter.mpr ⟨(tk_1 _ (List.mem_of_getElem? (i := 161) rfl)), rfl⟩
theorem ly_10_17 : u_lay RX10 TX10 17 ∈ gWS := List.mem_filter.mpr ⟨(tk_1 _ (List.mem_of_getElem? (i := 163) rfl)), rfl⟩
theorem in_10 : ∀ w ∈ u_ws RX10 TX10 18, w ∈ gWS := by
  intro w hw
  obtain ⟨k, hk, rfl⟩ := List.mem_map.mp hw
  exact ((lt_s (lt_s (lt_s (lt_s (lt_s (lt_s (lt_s (lt_s (lt_s (lt_s (lt_s (lt_s (lt_s (lt_s (lt_s (lt_s (lt_s (lt_s (lt_0 (p := fun k => u_lay RX10 TX10 k ∈ gWS)) ly_10_0) ly_10_1) ly_10_2) ly_10_3) ly_10_4) ly_10_5) ly_10_6) ly_10_7) ly_10_8) ly_10_9) ly_10_10) ly_10_11) ly_10_12) ly_10_13) ly_10_14) ly_10_15) ly_10_16) ly_10_17) : ∀ k, k < 18 → u_lay RX10 TX10 k ∈ gWS) k (List.mem_range.mp hk)
theorem ly_11_0 : u_lay RX11 TX11 0 ∈ gWS := List.mem_filter.mpr ⟨(tk_2 _ (List.mem_of_getElem? (i := 226) rfl)), rfl⟩
theorem ly_11_1 : u_lay RX11 TX11 1 ∈ gWS := List.mem_filter.mpr ⟨(tk_2 _ (List.mem_of_getElem? (i := 228) rfl)), rfl⟩
theorem ly_11_2 : u_lay RX11 TX11 2 ∈ gWS := List.mem_filter.mpr ⟨(tk_2 _ (List.mem_of_getElem? (i := 230) rfl)), rfl⟩
theorem ly_11_3 : u_lay RX11 TX11 3 ∈ gWS := List.mem_filter.mpr ⟨(tk_2 _ (List.mem_of_getElem? (i := 232) rfl)), rfl⟩
theorem ly_11_4 : u_lay RX11 TX11 4 ∈ gWS := List.mem_filter.mpr ⟨(tk_2 _ (List.mem_of_getElem? (i := 234) rfl)), rfl⟩
theorem ly_11_5 : u_lay RX11 TX11 5 ∈ gWS := List.mem_filter.mpr ⟨(tk_2 _ (List.mem_of_getElem? (i := 236) rfl)), rfl⟩
theorem ly_11_6 : u_lay RX11 TX11 6 ∈ gWS := List.mem_filter.mpr ⟨(tk_2 _ (List.mem_of_getElem? (i := 238) rfl)), rfl⟩
theorem ly_11_7 : u_lay RX11 TX11 7 ∈ gWS := List.mem_filter.mpr ⟨(tk_3 _ (List.mem_of_getElem? (i := 0) rfl)), rfl⟩
theorem ly_11_8 : u_lay RX11 TX11 8 ∈ gWS := List.mem_filter.mpr ⟨(tk_3 _ (List.mem_of_getElem? (i := 2) rfl)), rfl⟩
theorem ly_11_9 : u_lay RX11 TX11 9 ∈ gWS := List.mem_filter.mpr ⟨(tk_3 _ (List.mem_of_getElem? (i := 4) rfl)), rfl⟩
theorem ly_11_10 : u_lay RX11 TX11 10 ∈ gWS := List.mem_filter.mpr ⟨(tk_3 _ (List.mem_of_getElem? (i := 6) rfl)), rfl⟩
theorem ly_11_11 : u_lay RX11 TX11 11 ∈ gWS := List.mem_filter.mpr ⟨(tk_3 _ (List.mem_of_getElem? (i := 8) rfl)), rfl⟩
theorem ly_11_12 : u_lay RX11 TX11 12 ∈ gWS := List.mem_filter.mpr ⟨(tk_3 _ (List.mem_of_getElem? (i := 10) rfl)), rfl⟩
theorem ly_11_13 : u_lay RX11 TX11 13 ∈ gWS := List.mem_filter.mpr ⟨(tk_3 _ (List.mem_of_getElem? (i := 12) rfl)), rfl⟩
theorem ly_11_14 : u_lay RX11 TX11 14 ∈ gWS := List.mem_filter.mpr ⟨(tk_3 _ (List.mem_of_getElem? (i := 14) rfl)), rfl⟩
theorem in_11 : ∀ w ∈ u_ws RX11 TX11 15, w ∈ gWS := by
  intro w hw
  obtain ⟨k, hk, rfl⟩ := List.mem_map.mp hw
  exact ((lt_s (lt_s (lt_s (lt_s (lt_s (lt_s (lt_s (lt_s (lt_s (lt_s (lt_s (lt_s (lt_s (lt_s (lt_s (lt_0 (p := fun k => u_lay RX11 TX11 k ∈ gWS)) ly_11_0) ly_11_1) ly_11_2) ly_11_3) ly_11_4) ly_11_5) ly_11_6) ly_11_7) ly_11_8) ly_11_9) ly_11_10) ly_11_11) ly_11_12) ly_11_13) ly_11_14) : ∀ k, k < 15 → u_lay RX11 TX11 k ∈ gWS) k (List.mem_range.mp hk)
theorem ly_12_0 : u_lay RX12 TX12 0 ∈ gWS := List.mem_filter.mpr ⟨(tk_6 _ (List.mem_of_getElem? (i := 130) rfl)), rfl⟩
theorem ly_12_1 : u_lay RX12 TX12 1 ∈ gWS := List.mem_filter.mpr ⟨(tk_6 _ (List.mem_of_getElem? (i := 132) rfl)), rfl⟩
theorem ly_12_2 : u_lay RX12 TX12 2 ∈ gWS := List.mem_filter.mpr ⟨(tk_6 _ (List.mem_of_getElem? (i := 134) rfl)), rfl⟩
theorem ly_12_3 : u_lay RX12 TX12 3 ∈ gWS := List.mem_filter.mpr ⟨(tk_6 _ (List.mem_of_getElem? (i := 136) rfl)), rfl⟩
theorem ly_12_4 : u_lay RX12 TX12 4 ∈ gWS := List.mem_filter.mpr ⟨(tk_6 _ (List.mem_of_getElem? (i := 138) rfl)), rfl⟩
theorem ly_12_5 : u_lay RX12 TX12 5 ∈ gWS := List.mem_filter.mpr ⟨(tk_6 _ (List.mem_of_getElem? (i := 140) rfl)), rfl⟩
theorem ly_12_6 : u_lay RX12 TX12 6 ∈ gWS := List.mem_filter.mpr ⟨(tk_6 _ (List.mem_of_getElem? (i := 142) rfl)), rfl⟩
theorem ly_12_7 : u_lay RX12 TX12 7 ∈ gWS := List.mem_filter.mpr ⟨(tk_6 _ (List.mem_of_getElem? (i := 144) rfl)), rfl⟩
theorem ly_12_8 : u_lay RX12 TX12 8 ∈ gWS := List.mem_filter.mpr ⟨(tk_6 _ (List.mem_of_getElem? (i := 146) rfl)), rfl⟩
theorem ly_12_9 : u_lay RX12 TX12 9 ∈ gWS := List.mem_filter.mpr ⟨(tk_6 _ (List.mem_of_getElem? (i := 148) rfl)), rfl⟩
theorem ly_12_10 : u_lay RX12 TX12 10 ∈ gWS := List.mem_filter.mpr ⟨(tk_6 _ (List.mem_of_getElem? (i := 150) rfl)), rfl⟩
theorem ly_12_11 : u_lay RX12 TX12 11 ∈ gWS := List.mem_filter.mpr ⟨(tk_6 _ (List.mem_of_getElem? (i := 152) rfl)), rfl⟩
theorem ly_12_12 : u_lay RX12 TX12 12 ∈ gWS := List.mem_filter.mpr ⟨(tk_6 _ (List.mem_of_getElem? (i := 154) rfl)), rfl⟩
theorem ly_12_13 : u_lay RX12 TX12 13 ∈ gWS := List.mem_filter.mpr ⟨(tk_6 _ (List.mem_of_getElem? (i := 156) rfl)), rfl⟩
theorem ly_12_14 : u_lay RX12 TX12 14 ∈ gWS := List.mem_filter.mpr ⟨(tk_6 _ (List.mem_of_getElem? (i := 158) rfl)), rfl⟩
theorem ly_12_15 : u_lay RX12 TX12 15 ∈ gWS := List.mem_filter.mpr ⟨(tk_6 _ (List.mem_of_getElem? (i := 160) rfl)), rfl⟩
theorem ly_12_16 : u_lay RX12 TX12 16 ∈ gWS := List.mem_filter.mpr ⟨(tk_6 _ (List.mem_of_getElem? (i := 162) rfl)), rfl⟩
theorem ly_12_17 : u_lay RX12 TX12 17 ∈ gWS := List.mem_filter.mpr ⟨(tk_6 _ (List.mem_of_getElem? (i := 164) rfl)), rfl⟩
theorem ly_12_18 : u_lay RX12 TX12 18 ∈ gWS := List.mem_filter.mpr ⟨(tk_6 _ (List.mem_of_getElem? (i := 166) rfl)), rfl⟩
theorem ly_12_19 : u_lay RX12 TX12 19 ∈ gWS := List.mem_filter.mpr ⟨(tk_6 _ (List.mem_of_getElem? (i := 168) rfl)), rfl⟩
theorem ly_12_20 : u_lay RX12 TX12 20 ∈ gWS := List.mem_filter.mpr ⟨(tk_6 _ (List.mem_of_getElem? (i := 170) rfl)), rfl⟩
theorem ly_12_21 : u_lay RX12 TX12 21 ∈ gWS := List.mem_filter.mpr ⟨(tk_6 _ (List.mem_of_getElem? (i := 172) rfl)), rfl⟩
theorem ly_12_22 : u_lay RX12 TX12 22 ∈ gWS := List.mem_filter.mpr ⟨(tk_6 _ (List.mem_of_getElem? (i := 174) rfl)), rfl⟩
theorem ly_12_23 : u_lay RX12 TX12 23 ∈ gWS := List.mem_filter.mpr ⟨(tk_6 _ (List.mem_of_getElem? (i := 176) rfl)), rfl⟩
theorem ly_12_24 : u_lay RX12 TX12 24 ∈ gWS := List.mem_filter.mpr ⟨(tk_6 _ (List.mem_of_getElem? (i := 178) rfl)), rfl⟩
theorem ly_12_25 : u_lay RX12 TX12 25 ∈ gWS := List.mem_filter.mpr ⟨(tk_6 _ (List.mem_of_getElem? (i := 180) rfl)), rfl⟩
theorem ly_12_26 : u_lay RX12 TX12 26 ∈ gWS := List.mem_filter.mpr ⟨(tk_6 _ (List.mem_of_getElem? (i := 182) rfl)), rfl⟩
theorem ly_12_27 : u_lay RX12 TX12 27 ∈ gWS := List.mem_filter.mpr ⟨(tk_6 _ (List.mem_of_getElem? (i := 184) rfl)), rfl⟩
theorem ly_12_28 : u_lay RX12 TX12 28 ∈ gWS := List.mem_filter.mpr ⟨(tk_6 _ (List.mem_of_getElem? (i := 186) rfl)), rfl⟩
theorem ly_12_29 : u_lay RX12 TX12 29 ∈ gWS := List.mem_filter.mpr ⟨(tk_6 _ (List.mem_of_getElem? (i := 188) rfl)), rfl⟩
theorem ly_12_30 : u_lay RX12 TX12 30 ∈ gWS := List.mem_filter.mpr ⟨(tk_6 _ (List.mem_of_getElem? (i := 190) rfl)), rfl⟩
theorem ly_12_31 : u_lay RX12 TX12 31 ∈ gWS := List.mem_filter.mpr ⟨(tk_6 _ (List.mem_of_getElem? (i := 192) rfl)), rfl⟩
theorem ly_12_32 : u_lay RX12 TX12 32 ∈ gWS := List.mem_filter.mpr ⟨(tk_6 _ (List.mem_of_getElem? (i := 194) rfl)), rfl⟩
theorem ly_12_33 : u_lay RX12 TX12 33 ∈ gWS := List.mem_filter.mpr ⟨(tk_6 _ (List.mem_of_getElem? (i := 196) rfl)), rfl⟩
theorem ly_12_34 : u_lay RX12 TX12 34 ∈ gWS := List.mem_filter.mpr ⟨(tk_6 _ (List.mem_of_getElem? (i := 198) rfl)), rfl⟩
theorem ly_12_35 : u_lay RX12 TX12 35 ∈ gWS := List.mem_filter.mpr ⟨(tk_6 _ (List.mem_of_getElem? (i := 200) rfl)), rfl⟩
theorem ly_12_36 : u_lay RX12 TX12 36 ∈ gWS := List.mem_filter.mpr ⟨(tk_6 _ (List.mem_of_getElem? (i := 202) rfl)), rfl⟩
theorem ly_12_37 : u_lay RX12 TX12 37 ∈ gWS := List.mem_filter.mpr ⟨(tk_6 _ (List.mem_of_getElem? (i := 204) rfl)), rfl⟩
theorem ly_12_38 : u_lay RX12 TX12 38 ∈ gWS := List.mem_filter.mpr ⟨(tk_6 _ (List.mem_of_getElem? (i := 206) rfl)), rfl⟩
theorem ly_12_39 : u_lay RX12 TX12 39 ∈ gWS := List.mem_filter.mpr ⟨(tk_6 _ (List.mem_of_getElem? (i := 208) rfl)), rfl⟩
theorem ly_12_40 : u_lay RX12 TX12 40 ∈ gWS := List.mem_filter.mpr ⟨(tk_6 _ (List.mem_of_getElem? (i := 210) rfl)), rfl⟩
theorem ly_12_41 : u_lay RX12 TX12 41 ∈ gWS := List.mem_filter.mpr ⟨(tk_6 _ (List.mem_of_getElem? (i := 212) rfl)), rfl⟩
theorem ly_12_42 : u_lay RX12 TX12 42 ∈ gWS := List.mem_filter.mpr ⟨(tk_6 _ (List.mem_of_getElem? (i := 214) rfl)), rfl⟩
theorem ly_12_43 : u_lay RX12 TX12 43 ∈ gWS := List.mem_filter.mpr ⟨(tk_6 _ (List.mem_of_getElem? (i := 216) rfl)), rfl⟩
theorem ly_12_44 : u_lay RX12 TX12 44 ∈ gWS := List.mem_filter.mpr ⟨(tk_6 _ (List.mem_of_getElem? (i := 218) rfl)), rfl⟩
theorem ly_12_45 : u_lay RX12 TX12 45 ∈ gWS := List.mem_filter.mpr ⟨(tk_6 _ (List.mem_of_getElem? (i := 220) rfl)), rfl⟩
theorem ly_12_46 : u_lay RX12 TX12 46 ∈ gWS := List.mem_filter.mpr ⟨(tk_6 _ (List.mem_of_getElem? (i := 222) rfl)), rfl⟩
theorem ly_12_47 : u_lay RX12 TX12 47 ∈ gWS := List.mem_filter.mpr ⟨(tk_6 _ (List.mem_of_getElem? (i := 224) rfl)), rfl⟩
theorem ly_12_48 : u_lay RX12 TX12 48 ∈ gWS := List.mem_filter.mpr ⟨(tk_6 _ (List.mem_of_getElem? (i := 226) rfl)), rfl⟩
theorem ly_12_49 : u_lay RX12 TX12 49 ∈ gWS := List.mem_filter.mpr ⟨(tk_6 _ (List.mem_of_getElem? (i := 228) rfl)), rfl⟩
theorem in_12 : ∀ w ∈ u_ws RX12 TX12 50, w ∈ gWS := by
  intro w hw
  obtain ⟨k, hk, rfl⟩ := List.mem_map.mp hw
  exact ((lt_s (lt_s (lt_s (lt_s (lt_s (lt_s (lt_s (lt_s (lt_s (lt_s (lt_s (lt_s (lt_s (lt_s (lt_s (lt_s (lt_s (lt_s (lt_s (lt_s (lt_s (lt_s (lt_s (lt_s (lt_s (lt_s (lt_s (lt_s (lt_s (lt_s (lt_s (lt_s (lt_s (lt_s (lt_s (lt_s (lt_s (lt_s (lt_s (lt_s (lt_s (lt_s (lt_s (lt_s (lt_s (lt_s (lt_s (lt_s (lt_s (lt_s (lt_0 (p := fun k => u_lay RX12 TX12 k ∈ gWS)) ly_12_0) ly_12_1) ly_12_2) ly_12_3) ly_12_4) ly_12_5) ly_12_6) ly_12_7) ly_12_8) ly_12_9) ly_12_10) ly_12_11) ly_12_12) ly_12_13) ly_12_14) ly_12_15) ly_12_16) ly_12_17) ly_12_18) ly_12_19) ly_12_20) ly_12_21) ly_12_22) ly_12_23) ly_12_24) ly_12_25) ly_12_26) ly_12_27) ly_12_28) ly_12_29) ly_12_30) ly_12_31) ly_12_32) ly_12_33) ly_12_34) ly_12_35) ly_12_36) ly_12_37) ly_12_38) ly_12_39) ly_12_40) ly_12_41) ly_12_42) ly_12_43) ly_12_44) ly_12_45) ly_12_46) ly_12_47) ly_12_48) ly_12_49) : ∀ k, k < 50 → u_lay RX12 TX12 k ∈ gWS) k (List.mem_range.mp hk)
