/-! CODES, a2: methods -/
theorem w_init_String : Cond.initialized "java/lang/String" ∈ lw_tbl := w_19
theorem cX0 : clsP[0]? = some (RX0, TX0, 2) := rfl
theorem cX1 : clsP[1]? = some (RX1, TX1, 1) := rfl
theorem cX2 : clsP[2]? = some (RX2, TX2, 13) := rfl
theorem cX3 : clsP[3]? = some (RX3, TX3, 8) := rfl
theorem cX4 : clsP[4]? = some (RX4, TX4, 5) := rfl
theorem cX5 : clsP[5]? = some (RX5, TX5, 10) := rfl
theorem cX6 : clsP[6]? = some (RX6, TX6, 10) := rfl
theorem cX7 : clsP[7]? = some (RX7, TX7, 3) := rfl
theorem cX8 : clsP[8]? = some (RX8, TX8, 3) := rfl
theorem cX9 : clsP[9]? = some (RX9, TX9, 2) := rfl
theorem cX10 : clsP[10]? = some (RX10, TX10, 5) := rfl
theorem cX11 : clsP[11]? = some (RX11, TX11, 20) := rfl
theorem cX12 : clsP[12]? = some (RX12, TX12, 56) := rfl
abbrev fs_0 : List Value := [.null, .null]
abbrev fs_1 : List Value := [.null]
abbrev fs_2 : List Value := [.int 0, .int 0, .int 0, .int 0, .int 0, .int 0, .int 0, .int 0, .null, .null, .null, .null, .null]
abbrev fs_3 : List Value := [.null, .int 0, .int 0, .int 0, .int 0, .int 0, .int 0, .int 0]
abbrev fs_4 : List Value := [.null, .int 0, .int 0, .null, .null]
abbrev fs_5 : List Value := [.null, .int 0, .int 0, .int 0, .int 0, .null, .null, .null, .null, .null]
abbrev fs_6 : List Value := [.null, .int 0, .int 0, .null, .null, .null, .null, .null, .null, .null]
abbrev fs_7 : List Value := [.int 0, .int 0, .null]
abbrev fs_8 : List Value := [.null, .int 0, .int 0]
abbrev fs_9 : List Value := [.int 0, .null]
abbrev fs_10 : List Value := [.null, .int 0, .int 0, .null, .null]
abbrev fs_11 : List Value := [.null, .int 0, .int 0, .int 0, .null, .null, .null, .null, .null, .null, .null, .null, .null, .null, .null, .null, .null, .null, .int 0, .int 0]
abbrev fs_12 : List Value := [.null, .null, .null, .null, .null, .int 0, .null, .int 0, .int 0, .int 0, .int 0, .int 0, .int 0, .int 0, .int 0, .int 0, .int 0, .null, .int 0, .int 0, .null, .null, .int 0, .null, .null, .null, .null, .int 0, .int 0, .int 0, .null, .null, .null, .null, .null, .int 0, .int 0, .int 0, .int 0, .long 0, .long 0, .int 0, .null, .null, .null, .int 0, .null, .null, .null, .int 0, .long 0, .null, .int 0, .null, .null, .null]
abbrev ip_0 : InfP := (⟨"java/util/Arrays", "fill", "([II)V"⟩, prog_38_method_103_code, 4, (Option.none : Option FieldType), [], none)
abbrev ip_1 : InfP := (⟨"java/util/Arrays", "fill", "([JJ)V"⟩, prog_38_method_101_code, 5, (Option.none : Option FieldType), [], none)
abbrev ip_2 : InfP := (⟨"java/util/Arrays", "rangeCheck", "(III)V"⟩, prog_38_method_30_code, 3, (Option.none : Option FieldType), [], none)
abbrev ip_3 : InfP := (⟨"java/util/Arrays", "fill", "([JIIJ)V"⟩, prog_38_method_102_code, 6, (Option.none : Option FieldType), [], none)
abbrev ip_4 : InfP := (⟨"java/lang/Integer", "bitCount", "(I)I"⟩, prog_26_method_49_code, 1, (Option.some FieldType.int), [], none)
abbrev ip_5 : InfP := (⟨"java/lang/String", "coder", "()B"⟩, prog_30_method_152_code, 1, (Option.some FieldType.byte), [], some 100)
abbrev ip_6 : InfP := (⟨"java/lang/String", "isLatin1", "()Z"⟩, prog_30_method_154_code, 1, (Option.some FieldType.boolean), [], some 100)
abbrev ip_7 : InfP := (⟨"java/lang/String", "length", "()I"⟩, prog_30_method_54_code, 1, (Option.some FieldType.int), [], some 100)
abbrev ip_8 : InfP := (⟨"java/lang/StringLatin1", "charAt", "([BI)C"⟩, prog_32_method_2_code, 2, (Option.some FieldType.char), [], none)
abbrev ip_9 : InfP := (⟨"java/lang/String", "charAt", "(I)C"⟩, prog_30_method_56_code, 2, (Option.some FieldType.char), [], some 100)
abbrev ip_10 : InfP := (⟨"SnowKeeps$Guides", "<init>", "()V"⟩, prog_2_method_1_code, 1, (Option.none : Option FieldType), [], some 0)
abbrev ip_11 : InfP := (⟨"SnowKeeps$Guides", "goAllOut", "(I)V"⟩, prog_2_method_2_code, 2, (Option.none : Option FieldType), [], some 0)
abbrev ip_12 : InfP := (⟨"SnowKeeps$Guides", "comeHome", "(III)Z"⟩, prog_2_method_3_code, 8, (Option.some FieldType.boolean), [], some 0)
abbrev ip_13 : InfP := (⟨"SnowKeeps$Guides", "bestSet", "(II)I"⟩, prog_2_method_4_code, 8, (Option.some FieldType.int), [], some 0)
abbrev ip_14 : InfP := (⟨"SnowKeeps$Guides", "stepsOut", "(I)I"⟩, prog_2_method_5_code, 4, (Option.some FieldType.int), [], some 0)
abbrev ip_15 : InfP := (⟨"SnowKeeps$Leads", "<init>", "()V"⟩, prog_3_method_1_code, 1, (Option.none : Option FieldType), [], some 1)
abbrev ip_16 : InfP := (⟨"SnowKeeps$Leads", "takePaths", "(LSnowKeeps$Plain;)V"⟩, prog_3_method_2_code, 3, (Option.none : Option FieldType), [], some 1)
abbrev ip_17 : InfP := (⟨"SnowKeeps$Leads", "lead", "(LSnowKeeps$Plain;I)V"⟩, prog_3_method_6_code, 4, (Option.none : Option FieldType), [], some 1)
abbrev ip_18 : InfP := (⟨"SnowKeeps$Leads", "fewest", "(II)I"⟩, prog_3_method_9_code, 5, (Option.some FieldType.int), [], some 1)
abbrev ip_19 : InfP := (⟨"SnowKeeps$Leads", "onward", "(I)I"⟩, prog_3_method_7_code, 4, (Option.some FieldType.int), [], some 1)
abbrev ip_20 : InfP := (⟨"SnowKeeps$Leads", "takePrints", "(LSnowKeeps$Snow;I)V"⟩, prog_3_method_3_code, 4, (Option.none : Option FieldType), [], some 1)
abbrev ip_21 : InfP := (⟨"SnowKeeps$Leads", "behindSteps", "(II)I"⟩, prog_3_method_8_code, 5, (Option.some FieldType.int), [], some 1)
abbrev ip_22 : InfP := (⟨"SnowKeeps$Leads", "takeRemembered", "(LSnowKeeps$Snow;)V"⟩, prog_3_method_4_code, 3, (Option.none : Option FieldType), [], some 1)
abbrev ip_23 : InfP := (⟨"SnowKeeps$Leads", "takeRow", "(LSnowKeeps$Wander;I)V"⟩, prog_3_method_5_code, 4, (Option.none : Option FieldType), [], some 1)
abbrev ip_24 : InfP := (⟨"SnowKeeps$Plain", "<init>", "()V"⟩, prog_4_method_1_code, 1, (Option.none : Option FieldType), [], some 2)
abbrev ip_25 : InfP := (⟨"SnowKeeps$Plain", "hasWalker", "(I)Z"⟩, prog_4_method_3_code, 2, (Option.some FieldType.boolean), [], some 2)
abbrev ip_26 : InfP := (⟨"SnowKeeps$Plain", "way", "(II)I"⟩, prog_4_method_4_code, 3, (Option.some FieldType.int), [], some 2)
abbrev ip_27 : InfP := (⟨"SnowKeeps$Plain", "hasPlace", "(I)Z"⟩, prog_4_method_2_code, 2, (Option.some FieldType.boolean), [], some 2)
abbrev ip_28 : InfP := (⟨"SnowKeeps$Plain", "begin", "(I)I"⟩, prog_4_method_5_code, 2, (Option.some FieldType.int), [], some 2)
abbrev ip_29 : InfP := (⟨"SnowKeeps$Plain", "end", "(I)I"⟩, prog_4_method_6_code, 2, (Option.some FieldType.int), [], some 2)
abbrev ip_30 : InfP := (⟨"SnowKeeps$Plain", "addPath", "(II)V"⟩, prog_4_method_7_code, 3, (Option.none : Option FieldType), [], some 2)
abbrev ip_31 : InfP := (⟨"SnowKeeps$Plain", "addWalker", "(I)V"⟩, prog_4_method_8_code, 2, (Option.none : Option FieldType), [], some 2)
abbrev ip_32 : InfP := (⟨"SnowKeeps$Plain", "addToBeat", "(I)V"⟩, prog_4_method_9_code, 3, (Option.none : Option FieldType), [], some 2)
abbrev ip_33 : InfP := (⟨"SnowKeeps$Plain", "inBeat", "(II)I"⟩, prog_4_method_10_code, 3, (Option.some FieldType.int), [], some 2)
abbrev ip_34 : InfP := (⟨"SnowKeeps$Plain", "near", "(I)I"⟩, prog_4_method_11_code, 4, (Option.some FieldType.int), [], some 2)
abbrev ip_35 : InfP := (⟨"SnowKeeps$Plain", "neighbour", "(II)I"⟩, prog_4_method_12_code, 5, (Option.some FieldType.int), [], some 2)
abbrev ip_36 : InfP := (⟨"SnowKeeps$Reader", "<init>", "([BI)V"⟩, prog_5_method_1_code, 3, (Option.none : Option FieldType), [], some 3)
abbrev ip_37 : InfP := (⟨"SnowKeeps$Reader", "tell", "()LSnowKeeps$Plain;"⟩, prog_5_method_2_code, 3, (Option.some (FieldType.object "SnowKeeps$Plain")), [], some 3)
abbrev ip_38 : InfP := (⟨"SnowKeeps$Reader", "advance", "()V"⟩, prog_5_method_15_code, 1, (Option.none : Option FieldType), [], some 3)
abbrev ip_39 : InfP := (⟨"SnowKeeps$Reader", "isLetter", "(I)Z"⟩, prog_5_method_17_code, 1, (Option.some FieldType.boolean), [], none)
abbrev ip_40 : InfP := (⟨"SnowKeeps$Reader", "isDigit", "(I)Z"⟩, prog_5_method_18_code, 1, (Option.some FieldType.boolean), [], none)
abbrev ip_41 : InfP := (⟨"SnowKeeps$Reader", "advanceDigits", "()V"⟩, prog_5_method_16_code, 1, (Option.none : Option FieldType), [], some 3)
abbrev ip_42 : InfP := (⟨"SnowKeeps$Reader", "tellPlaces", "(LSnowKeeps$Plain;)Z"⟩, prog_5_method_3_code, 2, (Option.some FieldType.boolean), [], some 3)
abbrev ip_43 : InfP := (⟨"SnowKeeps$Reader", "isWord", "(Ljava/lang/String;)Z"⟩, prog_5_method_13_code, 3, (Option.some FieldType.boolean), [], some 3)
abbrev ip_44 : InfP := (⟨"SnowKeeps$Reader", "fail", "(I)Z"⟩, prog_5_method_14_code, 2, (Option.some FieldType.boolean), [], some 3)
abbrev ip_45 : InfP := (⟨"SnowKeeps$Reader", "isNumber", "(II)Z"⟩, prog_5_method_12_code, 3, (Option.some FieldType.boolean), [], some 3)
abbrev ip_46 : InfP := (⟨"SnowKeeps$Reader", "endLine", "(LSnowKeeps$Plain;)Z"⟩, prog_5_method_11_code, 2, (Option.some FieldType.boolean), [], some 3)
abbrev ip_47 : InfP := (⟨"SnowKeeps$Reader", "tellLine", "(LSnowKeeps$Plain;)Z"⟩, prog_5_method_4_code, 3, (Option.some FieldType.boolean), [], some 3)
abbrev ip_48 : InfP := (⟨"SnowKeeps$Reader", "tellPath", "(LSnowKeeps$Plain;)Z"⟩, prog_5_method_5_code, 3, (Option.some FieldType.boolean), [], some 3)
abbrev ip_49 : InfP := (⟨"SnowKeeps$Reader", "tellWalker", "(LSnowKeeps$Plain;)Z"⟩, prog_5_method_6_code, 2, (Option.some FieldType.boolean), [], some 3)
abbrev ip_50 : InfP := (⟨"SnowKeeps$Reader", "tellBeat", "(LSnowKeeps$Plain;)Z"⟩, prog_5_method_7_code, 3, (Option.some FieldType.boolean), [], some 3)
abbrev ip_51 : InfP := (⟨"SnowKeeps$Reader", "tellKeep", "(LSnowKeeps$Plain;)Z"⟩, prog_5_method_8_code, 2, (Option.some FieldType.boolean), [], some 3)
abbrev ip_52 : InfP := (⟨"SnowKeeps$Reader", "tellStorm", "(LSnowKeeps$Plain;)Z"⟩, prog_5_method_9_code, 2, (Option.some FieldType.boolean), [], some 3)
abbrev ip_53 : InfP := (⟨"SnowKeeps$Reader", "tellWolves", "(LSnowKeeps$Plain;)Z"⟩, prog_5_method_10_code, 2, (Option.some FieldType.boolean), [], some 3)
abbrev ip_54 : InfP := (⟨"SnowKeeps$Sign", "<init>", "()V"⟩, prog_6_method_1_code, 1, (Option.none : Option FieldType), [], some 4)
abbrev ip_55 : InfP := (⟨"SnowKeeps$Sign", "load", "(LSnowKeeps$Plain;LSnowKeeps$Tray;)Z"⟩, prog_6_method_2_code, 7, (Option.some FieldType.boolean), [], some 4)
abbrev ip_56 : InfP := (⟨"SnowKeeps$Sign", "fewestAlong", "(LSnowKeeps$Plain;I)I"⟩, prog_6_method_3_code, 3, (Option.some FieldType.int), [], some 4)
abbrev ip_57 : InfP := (⟨"SnowKeeps$Sign", "fewest", "(LSnowKeeps$Plain;IZ)I"⟩, prog_6_method_5_code, 13, (Option.some FieldType.int), [], some 4)
abbrev ip_58 : InfP := (⟨"SnowKeeps$Sign", "fewestRound", "(LSnowKeeps$Plain;)I"⟩, prog_6_method_4_code, 2, (Option.some FieldType.int), [], some 4)
abbrev ip_59 : InfP := (⟨"SnowKeeps$Snow", "<init>", "()V"⟩, prog_7_method_1_code, 1, (Option.none : Option FieldType), [], some 5)
abbrev ip_60 : InfP := (⟨"SnowKeeps$Snow", "whyNot", "(II)I"⟩, prog_7_method_4_code, 3, (Option.some FieldType.int), [], some 5)
abbrev ip_61 : InfP := (⟨"SnowKeeps$Snow", "go", "(II)V"⟩, prog_7_method_5_code, 3, (Option.none : Option FieldType), [], some 5)
abbrev ip_62 : InfP := (⟨"SnowKeeps$Snow", "log", "(II)V"⟩, prog_7_method_6_code, 3, (Option.none : Option FieldType), [], some 5)
abbrev ip_63 : InfP := (⟨"SnowKeeps$Snow", "waysWithPrints", "()I"⟩, prog_7_method_22_code, 3, (Option.some FieldType.int), [], some 5)
abbrev ip_64 : InfP := (⟨"SnowKeeps$Snow", "wayKept", "(I)I"⟩, prog_7_method_9_code, 2, (Option.some FieldType.int), [], some 5)
abbrev ip_65 : InfP := (⟨"SnowKeeps$Snow", "logAt", "([III)I"⟩, prog_7_method_14_code, 5, (Option.some FieldType.int), [], some 5)
abbrev ip_66 : InfP := (⟨"SnowKeeps$Snow", "remembered", "()I"⟩, prog_7_method_11_code, 1, (Option.some FieldType.int), [], some 5)
abbrev ip_67 : InfP := (⟨"SnowKeeps$Snow", "begin", "(LSnowKeeps$Plain;)V"⟩, prog_7_method_2_code, 2, (Option.none : Option FieldType), [], some 5)
abbrev ip_68 : InfP := (⟨"SnowKeeps$Snow", "printsAlong", "(I)I"⟩, prog_7_method_15_code, 4, (Option.some FieldType.int), [], some 5)
abbrev ip_69 : InfP := (⟨"SnowKeeps$Snow", "printsOf", "(II)I"⟩, prog_7_method_17_code, 5, (Option.some FieldType.int), [], some 5)
abbrev ip_70 : InfP := (⟨"SnowKeeps$Snow", "whoseKept", "(I)I"⟩, prog_7_method_10_code, 2, (Option.some FieldType.int), [], some 5)
abbrev ip_71 : InfP := (⟨"SnowKeeps$Snow", "eldestOf", "(I)I"⟩, prog_7_method_18_code, 3, (Option.some FieldType.int), [], some 5)
abbrev ip_72 : InfP := (⟨"SnowKeeps$Snow", "turn", "()I"⟩, prog_7_method_7_code, 4, (Option.some FieldType.int), [], some 5)
abbrev ip_73 : InfP := (⟨"SnowKeeps$Snow", "take", "(LSnowKeeps$Snow;)V"⟩, prog_7_method_3_code, 2, (Option.none : Option FieldType), [], some 5)
abbrev ip_74 : InfP := (⟨"SnowKeeps$Snow", "latestAlong", "(I)I"⟩, prog_7_method_16_code, 4, (Option.some FieldType.int), [], some 5)
abbrev ip_75 : InfP := (⟨"SnowKeeps$Snow", "touchedBy", "(I)I"⟩, prog_7_method_21_code, 4, (Option.some FieldType.int), [], some 5)
abbrev ip_76 : InfP := (⟨"SnowKeeps$Snow", "stepsTillGone", "(I)I"⟩, prog_7_method_20_code, 2, (Option.some FieldType.int), [], some 5)
abbrev ip_77 : InfP := (⟨"SnowKeeps$Snow", "latestOf", "(I)I"⟩, prog_7_method_19_code, 3, (Option.some FieldType.int), [], some 5)
abbrev ip_78 : InfP := (⟨"SnowKeeps$Snow", "wayRemembered", "(I)I"⟩, prog_7_method_12_code, 2, (Option.some FieldType.int), [], some 5)
abbrev ip_79 : InfP := (⟨"SnowKeeps$Snow", "whoseRemembered", "(I)I"⟩, prog_7_method_13_code, 2, (Option.some FieldType.int), [], some 5)
abbrev ip_80 : InfP := (⟨"SnowKeeps$Snow", "turnBack", "(I)I"⟩, prog_7_method_8_code, 5, (Option.some FieldType.int), [], some 5)
abbrev ip_81 : InfP := (⟨"SnowKeeps$Trails", "<init>", "()V"⟩, prog_8_method_1_code, 1, (Option.none : Option FieldType), [], some 6)
abbrev ip_82 : InfP := (⟨"SnowKeeps$Trails", "load", "(LSnowKeeps$Plain;[I)V"⟩, prog_8_method_2_code, 6, (Option.none : Option FieldType), [], some 6)
abbrev ip_83 : InfP := (⟨"SnowKeeps$Trails", "bitsFor", "(I)I"⟩, prog_8_method_3_code, 2, (Option.some FieldType.int), [], none)
abbrev ip_84 : InfP := (⟨"SnowKeeps$Trails", "comeFrom", "(I)J"⟩, prog_8_method_5_code, 2, (Option.some FieldType.long), [], some 6)
abbrev ip_85 : InfP := (⟨"SnowKeeps$Trails", "countComing", "(I[J)V"⟩, prog_8_method_6_code, 6, (Option.none : Option FieldType), [], some 6)
abbrev ip_86 : InfP := (⟨"SnowKeeps$Trails", "mayGoOn", "(II)Z"⟩, prog_8_method_4_code, 3, (Option.some FieldType.boolean), [], some 6)
abbrev ip_87 : InfP := (⟨"SnowKeeps$Trails", "placeOf", "(IJI)I"⟩, prog_8_method_8_code, 14, (Option.some FieldType.int), [], some 6)
abbrev ip_88 : InfP := (⟨"SnowKeeps$Trails", "goFrom", "(I)J"⟩, prog_8_method_7_code, 4, (Option.some FieldType.long), [], some 6)
abbrev ip_89 : InfP := (⟨"SnowKeeps$Trails", "slotTo", "(II)I"⟩, prog_8_method_9_code, 4, (Option.some FieldType.int), [], some 6)
abbrev ip_90 : InfP := (⟨"SnowKeeps$Trails", "onlyFirst", "(I)I"⟩, prog_8_method_10_code, 4, (Option.some FieldType.int), [], some 6)
abbrev ip_91 : InfP := (⟨"SnowKeeps$Trails", "onlyLast", "(I)I"⟩, prog_8_method_11_code, 5, (Option.some FieldType.int), [], some 6)
abbrev ip_92 : InfP := (⟨"SnowKeeps$Trails", "pairs", "(II)J"⟩, prog_8_method_12_code, 6, (Option.some FieldType.long), [], some 6)
abbrev ip_93 : InfP := (⟨"SnowKeeps$Tray", "<init>", "()V"⟩, prog_9_method_1_code, 1, (Option.none : Option FieldType), [], some 7)
abbrev ip_94 : InfP := (⟨"SnowKeeps$Tray", "isMissing", "()Z"⟩, prog_9_method_2_code, 1, (Option.some FieldType.boolean), [], some 7)
abbrev ip_95 : InfP := (⟨"SnowKeeps$Tray", "numberAt", "(I)J"⟩, prog_9_method_4_code, 2, (Option.some FieldType.long), [], some 7)
abbrev ip_96 : InfP := (⟨"SnowKeeps$Tray", "put", "(IJ)J"⟩, prog_9_method_5_code, 4, (Option.some FieldType.long), [], some 7)
abbrev ip_97 : InfP := (⟨"SnowKeeps$Tray", "cut", "(J)J"⟩, prog_9_method_6_code, 3, (Option.some FieldType.long), [], some 7)
abbrev ip_98 : InfP := (⟨"SnowKeeps$Tray", "lay", "(II)V"⟩, prog_9_method_3_code, 3, (Option.none : Option FieldType), [], some 7)
abbrev ip_99 : InfP := (⟨"SnowKeeps$Turns", "<init>", "()V"⟩, prog_10_method_1_code, 1, (Option.none : Option FieldType), [], some 8)
abbrev ip_100 : InfP := (⟨"SnowKeeps$Turns", "comesAgain", "(LSnowKeeps$Snow;)Z"⟩, prog_10_method_2_code, 4, (Option.some FieldType.boolean), [], some 8)
abbrev ip_101 : InfP := (⟨"SnowKeeps$Turns", "note", "(LSnowKeeps$Snow;[I)V"⟩, prog_10_method_3_code, 3, (Option.none : Option FieldType), [], none)
abbrev ip_102 : InfP := (⟨"SnowKeeps$Turns", "isSame", "([I[I)Z"⟩, prog_10_method_4_code, 3, (Option.some FieldType.boolean), [], none)
abbrev ip_103 : InfP := (⟨"SnowKeeps$Unlike", "<init>", "()V"⟩, prog_11_method_1_code, 1, (Option.none : Option FieldType), [], some 9)
abbrev ip_104 : InfP := (⟨"SnowKeeps$Unlike", "empty", "()V"⟩, prog_11_method_2_code, 1, (Option.none : Option FieldType), [], some 9)
abbrev ip_105 : InfP := (⟨"SnowKeeps$Unlike", "put", "(I)V"⟩, prog_11_method_3_code, 7, (Option.none : Option FieldType), [], some 9)
abbrev ip_106 : InfP := (⟨"SnowKeeps$Wander", "<init>", "()V"⟩, prog_12_method_1_code, 1, (Option.none : Option FieldType), [], some 10)
abbrev ip_107 : InfP := (⟨"SnowKeeps$Wander", "begin", "(LSnowKeeps$Plain;II)Z"⟩, prog_12_method_2_code, 4, (Option.some FieldType.boolean), [], some 10)
abbrev ip_108 : InfP := (⟨"SnowKeeps$Wander", "copyPlaces", "([I)V"⟩, prog_12_method_6_code, 3, (Option.none : Option FieldType), [], some 10)
abbrev ip_109 : InfP := (⟨"SnowKeeps$Wander", "forth", "()Z"⟩, prog_12_method_3_code, 2, (Option.some FieldType.boolean), [], some 10)
abbrev ip_110 : InfP := (⟨"SnowKeeps$Wander", "goOn", "(I)Z"⟩, prog_12_method_4_code, 4, (Option.some FieldType.boolean), [], some 10)
abbrev ip_111 : InfP := (⟨"SnowKeeps$Wander", "lastWays", "(I)I"⟩, prog_12_method_5_code, 4, (Option.some FieldType.int), [], some 10)
abbrev ip_112 : InfP := (⟨"SnowKeeps", "<init>", "()V"⟩, prog_1_method_1_code, 2, (Option.none : Option FieldType), [], some 11)
abbrev ip_113 : InfP := (⟨"SnowKeeps", "feed", "(IIIII)I"⟩, prog_1_method_2_code, 6, (Option.some FieldType.int), [], some 11)
abbrev ip_114 : InfP := (⟨"SnowKeeps", "putOnTape", "(I)V"⟩, prog_1_method_66_code, 3, (Option.none : Option FieldType), [], some 11)
abbrev ip_115 : InfP := (⟨"SnowKeeps", "fault", "(I)I"⟩, prog_1_method_4_code, 2, (Option.some FieldType.int), [], some 11)
abbrev ip_116 : InfP := (⟨"SnowKeeps", "step", "(II)I"⟩, prog_1_method_10_code, 4, (Option.some FieldType.int), [], some 11)
abbrev ip_117 : InfP := (⟨"SnowKeeps", "noon", "()I"⟩, prog_1_method_12_code, 2, (Option.some FieldType.int), [], some 11)
abbrev ip_118 : InfP := (⟨"SnowKeeps", "bare", "()I"⟩, prog_1_method_23_code, 4, (Option.some FieldType.int), [], some 11)
abbrev ip_119 : InfP := (⟨"SnowKeeps", "wolves", "()I"⟩, prog_1_method_29_code, 1, (Option.some FieldType.int), [], some 11)
abbrev ip_120 : InfP := (⟨"SnowKeeps", "starts", "()I"⟩, prog_1_method_42_code, 3, (Option.some FieldType.int), [], some 11)
abbrev ip_121 : InfP := (⟨"SnowKeeps", "takeKept", "(I)Z"⟩, prog_1_method_70_code, 4, (Option.some FieldType.boolean), [], some 11)
abbrev ip_122 : InfP := (⟨"SnowKeeps", "count", "(I)I"⟩, prog_1_method_58_code, 2, (Option.some FieldType.int), [], some 11)
abbrev ip_123 : InfP := (⟨"SnowKeeps", "plain", "(I)I"⟩, prog_1_method_3_code, 4, (Option.some FieldType.int), [], some 11)
abbrev ip_124 : InfP := (⟨"SnowKeeps", "askWithin", "(III)V"⟩, prog_1_method_64_code, 3, (Option.none : Option FieldType), [], none)
abbrev ip_125 : InfP := (⟨"SnowKeeps", "path", "(II)I"⟩, prog_1_method_5_code, 4, (Option.some FieldType.int), [], some 11)
abbrev ip_126 : InfP := (⟨"SnowKeeps", "distance", "(II)I"⟩, prog_1_method_6_code, 3, (Option.some FieldType.int), [], some 11)
abbrev ip_127 : InfP := (⟨"SnowKeeps", "askPlace", "(I)V"⟩, prog_1_method_59_code, 2, (Option.none : Option FieldType), [], some 11)
abbrev ip_128 : InfP := (⟨"SnowKeeps", "walker", "(II)I"⟩, prog_1_method_7_code, 4, (Option.some FieldType.int), [], some 11)
abbrev ip_129 : InfP := (⟨"SnowKeeps", "askWalker", "(I)V"⟩, prog_1_method_60_code, 2, (Option.none : Option FieldType), [], some 11)
abbrev ip_130 : InfP := (⟨"SnowKeeps", "print", "(II)I"⟩, prog_1_method_8_code, 3, (Option.some FieldType.int), [], some 11)
abbrev ip_131 : InfP := (⟨"SnowKeeps", "keep", "(I)I"⟩, prog_1_method_9_code, 2, (Option.some FieldType.int), [], some 11)
abbrev ip_132 : InfP := (⟨"SnowKeeps", "storm", "(I)I"⟩, prog_1_method_11_code, 2, (Option.some FieldType.int), [], some 11)
abbrev ip_133 : InfP := (⟨"SnowKeeps", "rounds", "(I)I"⟩, prog_1_method_13_code, 4, (Option.some FieldType.int), [], some 11)
abbrev ip_134 : InfP := (⟨"SnowKeeps", "beat", "(II)I"⟩, prog_1_method_14_code, 3, (Option.some FieldType.int), [], some 11)
abbrev ip_135 : InfP := (⟨"SnowKeeps", "again", "(I)I"⟩, prog_1_method_15_code, 2, (Option.some FieldType.int), [], some 11)
abbrev ip_136 : InfP := (⟨"SnowKeeps", "judge", "(II)I"⟩, prog_1_method_16_code, 6, (Option.some FieldType.int), [], some 11)
abbrev ip_137 : InfP := (⟨"SnowKeeps", "askTold", "(I)LSnowKeeps$Tray;"⟩, prog_1_method_62_code, 3, (Option.some (FieldType.object "SnowKeeps$Tray")), [], some 11)
abbrev ip_138 : InfP := (⟨"SnowKeeps", "askTray", "(I)LSnowKeeps$Tray;"⟩, prog_1_method_61_code, 2, (Option.some (FieldType.object "SnowKeeps$Tray")), [], some 11)
abbrev ip_139 : InfP := (⟨"SnowKeeps", "makeTold", "(LSnowKeeps$Snow;LSnowKeeps$Tray;)I"⟩, prog_1_method_67_code, 5, (Option.some FieldType.int), [], none)
abbrev ip_140 : InfP := (⟨"SnowKeeps", "whyNotTold", "(LSnowKeeps$Snow;J)I"⟩, prog_1_method_68_code, 3, (Option.some FieldType.int), [], none)
abbrev ip_141 : InfP := (⟨"SnowKeeps", "perform", "(I)I"⟩, prog_1_method_17_code, 2, (Option.some FieldType.int), [], some 11)
abbrev ip_142 : InfP := (⟨"SnowKeeps", "day", "(II)I"⟩, prog_1_method_18_code, 9, (Option.some FieldType.int), [], some 11)
abbrev ip_143 : InfP := (⟨"SnowKeeps", "behind", "(III)I"⟩, prog_1_method_19_code, 5, (Option.some FieldType.int), [], some 11)
abbrev ip_144 : InfP := (⟨"SnowKeeps", "prints", "(II)I"⟩, prog_1_method_20_code, 3, (Option.some FieldType.int), [], some 11)
abbrev ip_145 : InfP := (⟨"SnowKeeps", "age", "(II)I"⟩, prog_1_method_21_code, 4, (Option.some FieldType.int), [], some 11)
abbrev ip_146 : InfP := (⟨"SnowKeeps", "seen", "(IZ)I"⟩, prog_1_method_22_code, 8, (Option.some FieldType.int), [], some 11)
abbrev ip_147 : InfP := (⟨"SnowKeeps", "crossing", "(II)I"⟩, prog_1_method_24_code, 3, (Option.some FieldType.int), [], some 11)
abbrev ip_148 : InfP := (⟨"SnowKeeps", "fades", "(II)I"⟩, prog_1_method_25_code, 3, (Option.some FieldType.int), [], some 11)
abbrev ip_149 : InfP := (⟨"SnowKeeps", "hired", "(I)I"⟩, prog_1_method_26_code, 2, (Option.some FieldType.int), [], some 11)
abbrev ip_150 : InfP := (⟨"SnowKeeps", "remains", "(II)I"⟩, prog_1_method_27_code, 5, (Option.some FieldType.int), [], some 11)
abbrev ip_151 : InfP := (⟨"SnowKeeps", "hires", "(II)I"⟩, prog_1_method_28_code, 3, (Option.some FieldType.int), [], some 11)
abbrev ip_152 : InfP := (⟨"SnowKeeps", "wolf", "(II)I"⟩, prog_1_method_30_code, 3, (Option.some FieldType.int), [], some 11)
abbrev ip_153 : InfP := (⟨"SnowKeeps", "hound", "(II)I"⟩, prog_1_method_31_code, 6, (Option.some FieldType.int), [], some 11)
abbrev ip_154 : InfP := (⟨"SnowKeeps", "hunter", "(II)I"⟩, prog_1_method_32_code, 3, (Option.some FieldType.int), [], some 11)
abbrev ip_155 : InfP := (⟨"SnowKeeps", "hunts", "(II)I"⟩, prog_1_method_33_code, 3, (Option.some FieldType.int), [], some 11)
abbrev ip_156 : InfP := (⟨"SnowKeeps", "meets", "(II)I"⟩, prog_1_method_34_code, 6, (Option.some FieldType.int), [], some 11)
abbrev ip_157 : InfP := (⟨"SnowKeeps", "blur", "(III)I"⟩, prog_1_method_35_code, 4, (Option.some FieldType.int), [], some 11)
abbrev ip_158 : InfP := (⟨"SnowKeeps", "seekBlur", "(II)V"⟩, prog_1_method_69_code, 9, (Option.none : Option FieldType), [], some 11)
abbrev ip_159 : InfP := (⟨"SnowKeeps", "homes", "(II)I"⟩, prog_1_method_36_code, 6, (Option.some FieldType.int), [], some 11)
abbrev ip_160 : InfP := (⟨"SnowKeeps", "bargain", "(I)I"⟩, prog_1_method_37_code, 6, (Option.some FieldType.int), [], some 11)
abbrev ip_161 : InfP := (⟨"SnowKeeps", "retrace", "(II)I"⟩, prog_1_method_38_code, 4, (Option.some FieldType.int), [], some 11)
abbrev ip_162 : InfP := (⟨"SnowKeeps", "goesBack", "(I)I"⟩, prog_1_method_39_code, 2, (Option.some FieldType.int), [], some 11)
abbrev ip_163 : InfP := (⟨"SnowKeeps", "rows", "(I)J"⟩, prog_1_method_40_code, 2, (Option.some FieldType.long), [], some 11)
abbrev ip_164 : InfP := (⟨"SnowKeeps", "row", "(IJI)I"⟩, prog_1_method_41_code, 5, (Option.some FieldType.int), [], some 11)
abbrev ip_165 : InfP := (⟨"SnowKeeps", "sure", "(IZ)I"⟩, prog_1_method_43_code, 3, (Option.some FieldType.int), [], some 11)
abbrev ip_166 : InfP := (⟨"SnowKeeps", "two", "(II)J"⟩, prog_1_method_44_code, 3, (Option.some FieldType.long), [], some 11)
abbrev ip_167 : InfP := (⟨"SnowKeeps", "clear", "(IIZ)I"⟩, prog_1_method_45_code, 7, (Option.some FieldType.int), [], some 11)
abbrev ip_168 : InfP := (⟨"SnowKeeps", "isTheOnlyRow", "(I)Z"⟩, prog_1_method_71_code, 3, (Option.some FieldType.boolean), [], some 11)
abbrev ip_169 : InfP := (⟨"SnowKeeps", "signs", "(II)I"⟩, prog_1_method_46_code, 5, (Option.some FieldType.int), [], some 11)
abbrev ip_170 : InfP := (⟨"SnowKeeps", "writes", "(II)I"⟩, prog_1_method_47_code, 3, (Option.some FieldType.int), [], some 11)
abbrev ip_171 : InfP := (⟨"SnowKeeps", "takeSign", "(LSnowKeeps$Tray;)V"⟩, prog_1_method_65_code, 2, (Option.none : Option FieldType), [], some 11)
abbrev ip_172 : InfP := (⟨"SnowKeeps", "writtenFrom", "(I)I"⟩, prog_1_method_72_code, 3, (Option.some FieldType.int), [], some 11)
abbrev ip_173 : InfP := (⟨"SnowKeeps", "pens", "(I)I"⟩, prog_1_method_48_code, 4, (Option.some FieldType.int), [], some 11)
abbrev ip_174 : InfP := (⟨"SnowKeeps", "patrol", "(I)I"⟩, prog_1_method_49_code, 2, (Option.some FieldType.int), [], some 11)
abbrev ip_175 : InfP := (⟨"SnowKeeps", "tends", "(I)Z"⟩, prog_1_method_50_code, 3, (Option.some FieldType.boolean), [], some 11)
abbrev ip_176 : InfP := (⟨"SnowKeeps", "crowd", "(I)I"⟩, prog_1_method_51_code, 3, (Option.some FieldType.int), [], some 11)
abbrev ip_177 : InfP := (⟨"SnowKeeps", "lasts", "(I)I"⟩, prog_1_method_52_code, 5, (Option.some FieldType.int), [], some 11)
abbrev ip_178 : InfP := (⟨"SnowKeeps", "reads", "(I)I"⟩, prog_1_method_53_code, 6, (Option.some FieldType.int), [], some 11)
abbrev ip_179 : InfP := (⟨"SnowKeeps", "tray", "(III)V"⟩, prog_1_method_54_code, 5, (Option.none : Option FieldType), [], some 11)
abbrev ip_180 : InfP := (⟨"SnowKeeps", "write", "(IIJ)J"⟩, prog_1_method_55_code, 6, (Option.some FieldType.long), [], some 11)
abbrev ip_181 : InfP := (⟨"SnowKeeps", "image", "(I)V"⟩, prog_1_method_56_code, 2, (Option.none : Option FieldType), [], some 11)
abbrev ip_182 : InfP := (⟨"SnowKeeps", "askImage", "(I)V"⟩, prog_1_method_63_code, 1, (Option.none : Option FieldType), [], none)
abbrev ip_183 : InfP := (⟨"SnowKeeps", "restore", "(I)V"⟩, prog_1_method_57_code, 2, (Option.none : Option FieldType), [], some 11)
abbrev ip_184 : InfP := (⟨"SnowKeepsModel", "<init>", "()V"⟩, prog_14_method_1_code, 1, (Option.none : Option FieldType), [], some 12)
abbrev ip_185 : InfP := (⟨"SnowKeepsModel", "thrown", "()I"⟩, prog_14_method_2_code, 1, (Option.some FieldType.int), [], some 12)
abbrev ip_186 : InfP := (⟨"SnowKeepsModel", "feed", "(IIIII)I"⟩, prog_14_method_6_code, 8, (Option.some FieldType.int), [], some 12)
abbrev ip_187 : InfP := (⟨"SnowKeepsModel", "plain", "(I)I"⟩, prog_14_method_23_code, 3, (Option.some FieldType.int), [], some 12)
abbrev ip_188 : InfP := (⟨"SnowKeepsModel", "within", "(JJJ)Z"⟩, prog_14_method_4_code, 6, (Option.some FieldType.boolean), [], none)
abbrev ip_189 : InfP := (⟨"SnowKeepsModel", "fails", "(I)I"⟩, prog_14_method_3_code, 2, (Option.some FieldType.int), [], some 12)
abbrev ip_190 : InfP := (⟨"SnowKeepsModel", "readsOn", "()V"⟩, prog_14_method_10_code, 2, (Option.none : Option FieldType), [], some 12)
abbrev ip_191 : InfP := (⟨"SnowKeepsModel", "isLetter", "(I)Z"⟩, prog_14_method_8_code, 1, (Option.some FieldType.boolean), [], none)
abbrev ip_192 : InfP := (⟨"SnowKeepsModel", "see", "(I)I"⟩, prog_14_method_7_code, 2, (Option.some FieldType.int), [], some 12)
abbrev ip_193 : InfP := (⟨"SnowKeepsModel", "isDigit", "(I)Z"⟩, prog_14_method_9_code, 1, (Option.some FieldType.boolean), [], none)
abbrev ip_194 : InfP := (⟨"SnowKeepsModel", "took", "(Ljava/lang/String;)Z"⟩, prog_14_method_13_code, 3, (Option.some FieldType.boolean), [], some 12)
abbrev ip_195 : InfP := (⟨"SnowKeepsModel", "isWord", "(Ljava/lang/String;)Z"⟩, prog_14_method_12_code, 4, (Option.some FieldType.boolean), [], some 12)
abbrev ip_196 : InfP := (⟨"SnowKeepsModel", "blames", "(I)V"⟩, prog_14_method_11_code, 2, (Option.none : Option FieldType), [], some 12)
abbrev ip_197 : InfP := (⟨"SnowKeepsModel", "number", "(II)I"⟩, prog_14_method_14_code, 4, (Option.some FieldType.int), [], some 12)
abbrev ip_198 : InfP := (⟨"SnowKeepsModel", "readStop", "()V"⟩, prog_14_method_21_code, 1, (Option.none : Option FieldType), [], some 12)
abbrev ip_199 : InfP := (⟨"SnowKeepsModel", "readLine", "()V"⟩, prog_14_method_22_code, 1, (Option.none : Option FieldType), [], some 12)
abbrev ip_200 : InfP := (⟨"SnowKeepsModel", "readPath", "()V"⟩, prog_14_method_17_code, 3, (Option.none : Option FieldType), [], some 12)
abbrev ip_201 : InfP := (⟨"SnowKeepsModel", "place", "()I"⟩, prog_14_method_16_code, 1, (Option.some FieldType.int), [], some 12)
abbrev ip_202 : InfP := (⟨"SnowKeepsModel", "pathOf", "([III)I"⟩, prog_14_method_15_code, 6, (Option.some FieldType.int), [], none)
abbrev ip_203 : InfP := (⟨"SnowKeepsModel", "readWalker", "()V"⟩, prog_14_method_18_code, 3, (Option.none : Option FieldType), [], some 12)
abbrev ip_204 : InfP := (⟨"SnowKeepsModel", "readBeat", "(I)V"⟩, prog_14_method_19_code, 3, (Option.none : Option FieldType), [], some 12)
abbrev ip_205 : InfP := (⟨"SnowKeepsModel", "readStorm", "()V"⟩, prog_14_method_20_code, 3, (Option.none : Option FieldType), [], some 12)
abbrev ip_206 : InfP := (⟨"SnowKeepsModel", "copies", "([I[I)V"⟩, prog_14_method_5_code, 3, (Option.none : Option FieldType), [], none)
abbrev ip_207 : InfP := (⟨"SnowKeepsModel", "fault", "(I)I"⟩, prog_14_method_24_code, 2, (Option.some FieldType.int), [], some 12)
abbrev ip_208 : InfP := (⟨"SnowKeepsModel", "path", "(II)I"⟩, prog_14_method_37_code, 3, (Option.some FieldType.int), [], some 12)
abbrev ip_209 : InfP := (⟨"SnowKeepsModel", "printsOf", "(I)I"⟩, prog_14_method_36_code, 4, (Option.some FieldType.int), [], some 12)
abbrev ip_210 : InfP := (⟨"SnowKeepsModel", "many", "()I"⟩, prog_14_method_27_code, 1, (Option.some FieldType.int), [], some 12)
abbrev ip_211 : InfP := (⟨"SnowKeepsModel", "wayOf", "(I)I"⟩, prog_14_method_33_code, 2, (Option.some FieldType.int), [], some 12)
abbrev ip_212 : InfP := (⟨"SnowKeepsModel", "distance", "(II)I"⟩, prog_14_method_39_code, 3, (Option.some FieldType.int), [], some 12)
abbrev ip_213 : InfP := (⟨"SnowKeepsModel", "isPlace", "(J)Z"⟩, prog_14_method_28_code, 3, (Option.some FieldType.boolean), [], some 12)
abbrev ip_214 : InfP := (⟨"SnowKeepsModel", "places", "()I"⟩, prog_14_method_25_code, 1, (Option.some FieldType.int), [], some 12)
abbrev ip_215 : InfP := (⟨"SnowKeepsModel", "laysFar", "(IZ)V"⟩, prog_14_method_38_code, 5, (Option.none : Option FieldType), [], some 12)
abbrev ip_216 : InfP := (⟨"SnowKeepsModel", "from", "(I)I"⟩, prog_14_method_31_code, 2, (Option.some FieldType.int), [], some 12)
abbrev ip_217 : InfP := (⟨"SnowKeepsModel", "to", "(I)I"⟩, prog_14_method_32_code, 2, (Option.some FieldType.int), [], some 12)
abbrev ip_218 : InfP := (⟨"SnowKeepsModel", "walker", "(II)I"⟩, prog_14_method_42_code, 5, (Option.some FieldType.int), [], some 12)
abbrev ip_219 : InfP := (⟨"SnowKeepsModel", "isWalker", "(J)Z"⟩, prog_14_method_29_code, 3, (Option.some FieldType.boolean), [], some 12)
abbrev ip_220 : InfP := (⟨"SnowKeepsModel", "walkers", "()I"⟩, prog_14_method_26_code, 1, (Option.some FieldType.int), [], some 12)
abbrev ip_221 : InfP := (⟨"SnowKeepsModel", "whose", "(I)I"⟩, prog_14_method_34_code, 2, (Option.some FieldType.int), [], some 12)
abbrev ip_222 : InfP := (⟨"SnowKeepsModel", "eldestOf", "(I)I"⟩, prog_14_method_40_code, 3, (Option.some FieldType.int), [], some 12)
abbrev ip_223 : InfP := (⟨"SnowKeepsModel", "print", "(II)I"⟩, prog_14_method_43_code, 3, (Option.some FieldType.int), [], some 12)
abbrev ip_224 : InfP := (⟨"SnowKeepsModel", "keep", "(I)I"⟩, prog_14_method_45_code, 2, (Option.some FieldType.int), [], some 12)
abbrev ip_225 : InfP := (⟨"SnowKeepsModel", "loses", "(I)V"⟩, prog_14_method_44_code, 3, (Option.none : Option FieldType), [], some 12)
abbrev ip_226 : InfP := (⟨"SnowKeepsModel", "step", "(II)I"⟩, prog_14_method_50_code, 4, (Option.some FieldType.int), [], some 12)
abbrev ip_227 : InfP := (⟨"SnowKeepsModel", "whyNot", "(JJ)I"⟩, prog_14_method_46_code, 5, (Option.some FieldType.int), [], some 12)
abbrev ip_228 : InfP := (⟨"SnowKeepsModel", "where", "(I)I"⟩, prog_14_method_35_code, 2, (Option.some FieldType.int), [], some 12)
abbrev ip_229 : InfP := (⟨"SnowKeepsModel", "way", "(II)I"⟩, prog_14_method_30_code, 4, (Option.some FieldType.int), [], some 12)
abbrev ip_230 : InfP := (⟨"SnowKeepsModel", "goes", "(II)V"⟩, prog_14_method_49_code, 4, (Option.none : Option FieldType), [], some 12)
abbrev ip_231 : InfP := (⟨"SnowKeepsModel", "remembers", "(II)V"⟩, prog_14_method_48_code, 5, (Option.none : Option FieldType), [], some 12)
abbrev ip_232 : InfP := (⟨"SnowKeepsModel", "allSteps", "()I"⟩, prog_14_method_47_code, 3, (Option.some FieldType.int), [], some 12)
abbrev ip_233 : InfP := (⟨"SnowKeepsModel", "storm", "(I)I"⟩, prog_14_method_51_code, 2, (Option.some FieldType.int), [], some 12)
abbrev ip_234 : InfP := (⟨"SnowKeepsModel", "judge", "(II)I"⟩, prog_14_method_57_code, 7, (Option.some FieldType.int), [], some 12)
abbrev ip_235 : InfP := (⟨"SnowKeepsModel", "trayFault", "(I)I"⟩, prog_14_method_52_code, 2, (Option.some FieldType.int), [], some 12)
abbrev ip_236 : InfP := (⟨"SnowKeepsModel", "isTray", "(I)Z"⟩, prog_14_method_129_code, 1, (Option.some FieldType.boolean), [], none)
abbrev ip_237 : InfP := (⟨"SnowKeepsModel", "goesBy", "(I)I"⟩, prog_14_method_54_code, 3, (Option.some FieldType.int), [], some 12)
abbrev ip_238 : InfP := (⟨"SnowKeepsModel", "whyTold", "(J)I"⟩, prog_14_method_53_code, 3, (Option.some FieldType.int), [], some 12)
abbrev ip_239 : InfP := (⟨"SnowKeepsModel", "printed", "()I"⟩, prog_14_method_55_code, 3, (Option.some FieldType.int), [], some 12)
abbrev ip_240 : InfP := (⟨"SnowKeepsModel", "size", "(I)I"⟩, prog_14_method_56_code, 3, (Option.some FieldType.int), [], none)
abbrev ip_241 : InfP := (⟨"SnowKeepsModel", "perform", "(I)I"⟩, prog_14_method_58_code, 2, (Option.some FieldType.int), [], some 12)
abbrev ip_242 : InfP := (⟨"SnowKeepsModel", "day", "(II)I"⟩, prog_14_method_61_code, 9, (Option.some FieldType.int), [], some 12)
abbrev ip_243 : InfP := (⟨"SnowKeepsModel", "draw", "(I)I"⟩, prog_14_method_59_code, 2, (Option.some FieldType.int), [], some 12)
abbrev ip_244 : InfP := (⟨"SnowKeepsModel", "besides", "(I)I"⟩, prog_14_method_60_code, 4, (Option.some FieldType.int), [], some 12)
abbrev ip_245 : InfP := (⟨"SnowKeepsModel", "behind", "(III)I"⟩, prog_14_method_63_code, 5, (Option.some FieldType.int), [], some 12)
abbrev ip_246 : InfP := (⟨"SnowKeepsModel", "between", "(II)I"⟩, prog_14_method_62_code, 4, (Option.some FieldType.int), [], some 12)
abbrev ip_247 : InfP := (⟨"SnowKeepsModel", "prints", "(II)I"⟩, prog_14_method_64_code, 3, (Option.some FieldType.int), [], some 12)
abbrev ip_248 : InfP := (⟨"SnowKeepsModel", "age", "(II)I"⟩, prog_14_method_66_code, 4, (Option.some FieldType.int), [], some 12)
abbrev ip_249 : InfP := (⟨"SnowKeepsModel", "latestAlong", "(I)I"⟩, prog_14_method_65_code, 3, (Option.some FieldType.int), [], some 12)
abbrev ip_250 : InfP := (⟨"SnowKeepsModel", "seen", "(IZ)I"⟩, prog_14_method_67_code, 7, (Option.some FieldType.int), [], some 12)
abbrev ip_251 : InfP := (⟨"SnowKeepsModel", "bare", "()I"⟩, prog_14_method_68_code, 3, (Option.some FieldType.int), [], some 12)
abbrev ip_252 : InfP := (⟨"SnowKeepsModel", "crossing", "(II)I"⟩, prog_14_method_70_code, 3, (Option.some FieldType.int), [], some 12)
abbrev ip_253 : InfP := (⟨"SnowKeepsModel", "touched", "(I)I"⟩, prog_14_method_69_code, 4, (Option.some FieldType.int), [], some 12)
abbrev ip_254 : InfP := (⟨"SnowKeepsModel", "fades", "(II)I"⟩, prog_14_method_72_code, 3, (Option.some FieldType.int), [], some 12)
abbrev ip_255 : InfP := (⟨"SnowKeepsModel", "till", "(I)I"⟩, prog_14_method_71_code, 2, (Option.some FieldType.int), [], some 12)
abbrev ip_256 : InfP := (⟨"SnowKeepsModel", "hired", "(I)I"⟩, prog_14_method_73_code, 2, (Option.some FieldType.int), [], some 12)
abbrev ip_257 : InfP := (⟨"SnowKeepsModel", "latestOf", "(I)I"⟩, prog_14_method_41_code, 3, (Option.some FieldType.int), [], some 12)
abbrev ip_258 : InfP := (⟨"SnowKeepsModel", "remains", "(II)I"⟩, prog_14_method_74_code, 5, (Option.some FieldType.int), [], some 12)
abbrev ip_259 : InfP := (⟨"SnowKeepsModel", "hound", "(II)I"⟩, prog_14_method_75_code, 6, (Option.some FieldType.int), [], some 12)
abbrev ip_260 : InfP := (⟨"SnowKeepsModel", "hunter", "(II)I"⟩, prog_14_method_76_code, 7, (Option.some FieldType.int), [], some 12)
abbrev ip_261 : InfP := (⟨"SnowKeepsModel", "hunts", "(II)I"⟩, prog_14_method_77_code, 3, (Option.some FieldType.int), [], some 12)
abbrev ip_262 : InfP := (⟨"SnowKeepsModel", "retrace", "(II)I"⟩, prog_14_method_79_code, 4, (Option.some FieldType.int), [], some 12)
abbrev ip_263 : InfP := (⟨"SnowKeepsModel", "backs", "(I)I"⟩, prog_14_method_78_code, 6, (Option.some FieldType.int), [], some 12)
abbrev ip_264 : InfP := (⟨"SnowKeepsModel", "goesBack", "(I)I"⟩, prog_14_method_80_code, 2, (Option.some FieldType.int), [], some 12)
abbrev ip_265 : InfP := (⟨"SnowKeepsModel", "noon", "()I"⟩, prog_14_method_81_code, 2, (Option.some FieldType.int), [], some 12)
abbrev ip_266 : InfP := (⟨"SnowKeepsModel", "rounds", "(I)I"⟩, prog_14_method_84_code, 4, (Option.some FieldType.int), [], some 12)
abbrev ip_267 : InfP := (⟨"SnowKeepsModel", "turn", "()I"⟩, prog_14_method_83_code, 4, (Option.some FieldType.int), [], some 12)
abbrev ip_268 : InfP := (⟨"SnowKeepsModel", "beats", "(I)I"⟩, prog_14_method_82_code, 2, (Option.some FieldType.int), [], some 12)
abbrev ip_269 : InfP := (⟨"SnowKeepsModel", "beat", "(II)I"⟩, prog_14_method_85_code, 3, (Option.some FieldType.int), [], some 12)
abbrev ip_270 : InfP := (⟨"SnowKeepsModel", "again", "(I)I"⟩, prog_14_method_88_code, 6, (Option.some FieldType.int), [], some 12)
abbrev ip_271 : InfP := (⟨"SnowKeepsModel", "laysState", "(I)V"⟩, prog_14_method_86_code, 3, (Option.none : Option FieldType), [], some 12)
abbrev ip_272 : InfP := (⟨"SnowKeepsModel", "areAlike", "(II)Z"⟩, prog_14_method_87_code, 4, (Option.some FieldType.boolean), [], some 12)
abbrev ip_273 : InfP := (⟨"SnowKeepsModel", "hires", "(II)I"⟩, prog_14_method_89_code, 4, (Option.some FieldType.int), [], some 12)
abbrev ip_274 : InfP := (⟨"SnowKeepsModel", "wolves", "()I"⟩, prog_14_method_90_code, 1, (Option.some FieldType.int), [], some 12)
abbrev ip_275 : InfP := (⟨"SnowKeepsModel", "wolf", "(II)I"⟩, prog_14_method_92_code, 3, (Option.some FieldType.int), [], some 12)
abbrev ip_276 : InfP := (⟨"SnowKeepsModel", "wolfWay", "(I)I"⟩, prog_14_method_91_code, 2, (Option.some FieldType.int), [], some 12)
abbrev ip_277 : InfP := (⟨"SnowKeepsModel", "meets", "(II)I"⟩, prog_14_method_94_code, 8, (Option.some FieldType.int), [], some 12)
abbrev ip_278 : InfP := (⟨"SnowKeepsModel", "huntedOn", "(I)I"⟩, prog_14_method_93_code, 4, (Option.some FieldType.int), [], some 12)
abbrev ip_279 : InfP := (⟨"SnowKeepsModel", "blur", "(III)I"⟩, prog_14_method_96_code, 4, (Option.some FieldType.int), [], some 12)
abbrev ip_280 : InfP := (⟨"SnowKeepsModel", "blursOn", "(III)V"⟩, prog_14_method_95_code, 7, (Option.none : Option FieldType), [], some 12)
abbrev ip_281 : InfP := (⟨"SnowKeepsModel", "homes", "(II)I"⟩, prog_14_method_97_code, 4, (Option.some FieldType.int), [], some 12)
abbrev ip_282 : InfP := (⟨"SnowKeepsModel", "bargain", "(I)I"⟩, prog_14_method_99_code, 7, (Option.some FieldType.int), [], some 12)
abbrev ip_283 : InfP := (⟨"SnowKeepsModel", "comeHome", "(I)Z"⟩, prog_14_method_98_code, 5, (Option.some FieldType.boolean), [], some 12)
abbrev ip_284 : InfP := (⟨"SnowKeepsModel", "rows", "(I)J"⟩, prog_14_method_104_code, 2, (Option.some FieldType.long), [], some 12)
abbrev ip_285 : InfP := (⟨"SnowKeepsModel", "isSpent", "()Z"⟩, prog_14_method_103_code, 1, (Option.some FieldType.boolean), [], some 12)
abbrev ip_286 : InfP := (⟨"SnowKeepsModel", "laysLeft", "()V"⟩, prog_14_method_100_code, 2, (Option.none : Option FieldType), [], some 12)
abbrev ip_287 : InfP := (⟨"SnowKeepsModel", "rowsFrom", "(IJ)J"⟩, prog_14_method_102_code, 4, (Option.some FieldType.long), [], some 12)
abbrev ip_288 : InfP := (⟨"SnowKeepsModel", "goesRows", "(II)V"⟩, prog_14_method_101_code, 5, (Option.none : Option FieldType), [], some 12)
abbrev ip_289 : InfP := (⟨"SnowKeepsModel", "row", "(IJI)I"⟩, prog_14_method_105_code, 5, (Option.some FieldType.int), [], some 12)
abbrev ip_290 : InfP := (⟨"SnowKeepsModel", "starts", "()I"⟩, prog_14_method_106_code, 3, (Option.some FieldType.int), [], some 12)
abbrev ip_291 : InfP := (⟨"SnowKeepsModel", "sure", "(IZ)I"⟩, prog_14_method_107_code, 3, (Option.some FieldType.int), [], some 12)
abbrev ip_292 : InfP := (⟨"SnowKeepsModel", "two", "(II)J"⟩, prog_14_method_110_code, 4, (Option.some FieldType.long), [], some 12)
abbrev ip_293 : InfP := (⟨"SnowKeepsModel", "parts", "(III)J"⟩, prog_14_method_108_code, 10, (Option.some FieldType.long), [], some 12)
abbrev ip_294 : InfP := (⟨"SnowKeepsModel", "exchanges", "()V"⟩, prog_14_method_109_code, 3, (Option.none : Option FieldType), [], some 12)
abbrev ip_295 : InfP := (⟨"SnowKeepsModel", "signs", "(II)I"⟩, prog_14_method_113_code, 4, (Option.some FieldType.int), [], some 12)
abbrev ip_296 : InfP := (⟨"SnowKeepsModel", "walks", "(III)V"⟩, prog_14_method_112_code, 7, (Option.none : Option FieldType), [], some 12)
abbrev ip_297 : InfP := (⟨"SnowKeepsModel", "meetsSign", "(I)V"⟩, prog_14_method_111_code, 3, (Option.none : Option FieldType), [], some 12)
abbrev ip_298 : InfP := (⟨"SnowKeepsModel", "writes", "(II)I"⟩, prog_14_method_118_code, 3, (Option.some FieldType.int), [], some 12)
abbrev ip_299 : InfP := (⟨"SnowKeepsModel", "signFault", "(I)I"⟩, prog_14_method_114_code, 6, (Option.some FieldType.int), [], some 12)
abbrev ip_300 : InfP := (⟨"SnowKeepsModel", "placeIn", "(I)I"⟩, prog_14_method_115_code, 3, (Option.some FieldType.int), [], some 12)
abbrev ip_301 : InfP := (⟨"SnowKeepsModel", "written", "(I)I"⟩, prog_14_method_117_code, 5, (Option.some FieldType.int), [], some 12)
abbrev ip_302 : InfP := (⟨"SnowKeepsModel", "laysFarther", "(IZ)V"⟩, prog_14_method_116_code, 9, (Option.none : Option FieldType), [], some 12)
abbrev ip_303 : InfP := (⟨"SnowKeepsModel", "pens", "(I)I"⟩, prog_14_method_119_code, 4, (Option.some FieldType.int), [], some 12)
abbrev ip_304 : InfP := (⟨"SnowKeepsModel", "patrol", "(I)I"⟩, prog_14_method_121_code, 2, (Option.some FieldType.int), [], some 12)
abbrev ip_305 : InfP := (⟨"SnowKeepsModel", "patrolled", "()I"⟩, prog_14_method_120_code, 4, (Option.some FieldType.int), [], some 12)
abbrev ip_306 : InfP := (⟨"SnowKeepsModel", "tends", "(I)Z"⟩, prog_14_method_122_code, 3, (Option.some FieldType.boolean), [], some 12)
abbrev ip_307 : InfP := (⟨"SnowKeepsModel", "crowd", "(I)I"⟩, prog_14_method_123_code, 4, (Option.some FieldType.int), [], some 12)
abbrev ip_308 : InfP := (⟨"SnowKeepsModel", "lasts", "(I)I"⟩, prog_14_method_124_code, 5, (Option.some FieldType.int), [], some 12)
abbrev ip_309 : InfP := (⟨"SnowKeepsModel", "clear", "(IIZ)I"⟩, prog_14_method_127_code, 5, (Option.some FieldType.int), [], some 12)
abbrev ip_310 : InfP := (⟨"SnowKeepsModel", "clears", "(IIIZ)V"⟩, prog_14_method_125_code, 7, (Option.none : Option FieldType), [], some 12)
abbrev ip_311 : InfP := (⟨"SnowKeepsModel", "isOnly", "(I)Z"⟩, prog_14_method_126_code, 3, (Option.some FieldType.boolean), [], some 12)
abbrev ip_312 : InfP := (⟨"SnowKeepsModel", "reads", "(I)I"⟩, prog_14_method_128_code, 4, (Option.some FieldType.int), [], some 12)
abbrev ip_313 : InfP := (⟨"SnowKeepsModel", "cut", "(IIJ)J"⟩, prog_14_method_131_code, 6, (Option.some FieldType.long), [], some 12)
abbrev ip_314 : InfP := (⟨"SnowKeepsModel", "tray", "(III)V"⟩, prog_14_method_130_code, 5, (Option.none : Option FieldType), [], some 12)
abbrev ip_315 : InfP := (⟨"SnowKeepsModel", "write", "(IIJ)J"⟩, prog_14_method_132_code, 5, (Option.some FieldType.long), [], some 12)
abbrev ip_316 : InfP := (⟨"SnowKeepsModel", "image", "(I)V"⟩, prog_14_method_133_code, 3, (Option.none : Option FieldType), [], some 12)
abbrev ip_317 : InfP := (⟨"SnowKeepsModel", "restore", "(I)V"⟩, prog_14_method_134_code, 3, (Option.none : Option FieldType), [], some 12)
abbrev ip_318 : InfP := (⟨"SnowKeepsModel", "count", "(I)I"⟩, prog_14_method_135_code, 2, (Option.some FieldType.int), [], some 12)
abbrev ip_319 : InfP := (⟨"SnowKeepsLaw", "plain", "(LSnowKeeps;I[J)I"⟩, method_3_code, 4, (Option.some FieldType.int), [(0, 9, 12, 13)], none)
abbrev ip_320 : InfP := (⟨"SnowKeepsLaw", "path", "(LSnowKeeps;II[J)I"⟩, method_4_code, 5, (Option.some FieldType.int), [(0, 10, 13, 19), (0, 10, 17, 13)], none)
abbrev ip_321 : InfP := (⟨"SnowKeepsLaw", "distance", "(LSnowKeeps;II[J)I"⟩, method_5_code, 5, (Option.some FieldType.int), [(0, 10, 13, 19)], none)
abbrev ip_322 : InfP := (⟨"SnowKeepsLaw", "walker", "(LSnowKeeps;II[J)I"⟩, method_6_code, 5, (Option.some FieldType.int), [(0, 10, 13, 19), (0, 10, 17, 13)], none)
abbrev ip_323 : InfP := (⟨"SnowKeepsLaw", "print", "(LSnowKeeps;II[J)I"⟩, method_7_code, 5, (Option.some FieldType.int), [(0, 10, 13, 19), (0, 10, 17, 13)], none)
abbrev ip_324 : InfP := (⟨"SnowKeepsLaw", "keep", "(LSnowKeeps;I[J)I"⟩, method_8_code, 4, (Option.some FieldType.int), [(0, 9, 12, 13)], none)
abbrev ip_325 : InfP := (⟨"SnowKeepsLaw", "storm", "(LSnowKeeps;I[J)I"⟩, method_9_code, 4, (Option.some FieldType.int), [(0, 9, 12, 13)], none)
abbrev ip_326 : InfP := (⟨"SnowKeepsLaw", "rounds", "(LSnowKeeps;I[J)I"⟩, method_10_code, 4, (Option.some FieldType.int), [(0, 9, 12, 13)], none)
abbrev ip_327 : InfP := (⟨"SnowKeepsLaw", "beat", "(LSnowKeeps;II[J)I"⟩, method_11_code, 5, (Option.some FieldType.int), [(0, 10, 13, 19), (0, 10, 17, 13)], none)
abbrev ip_328 : InfP := (⟨"SnowKeepsLaw", "again", "(LSnowKeeps;I[J)I"⟩, method_12_code, 4, (Option.some FieldType.int), [(0, 9, 12, 13)], none)
abbrev ip_329 : InfP := (⟨"SnowKeepsLaw", "judge", "(LSnowKeeps;II[J)I"⟩, method_13_code, 5, (Option.some FieldType.int), [(0, 10, 13, 19), (0, 10, 17, 48), (0, 10, 21, 13)], none)
abbrev ip_330 : InfP := (⟨"SnowKeepsLaw", "perform", "(LSnowKeeps;I[J)I"⟩, method_14_code, 4, (Option.some FieldType.int), [(0, 9, 12, 19), (0, 9, 15, 48)], none)
abbrev ip_331 : InfP := (⟨"SnowKeepsLaw", "day", "(LSnowKeeps;II[J)I"⟩, method_15_code, 5, (Option.some FieldType.int), [(0, 10, 13, 13), (0, 10, 17, 48)], none)
abbrev ip_332 : InfP := (⟨"SnowKeepsLaw", "behind", "(LSnowKeeps;III[J)I"⟩, method_16_code, 6, (Option.some FieldType.int), [(0, 12, 15, 19), (0, 12, 19, 48)], none)
abbrev ip_333 : InfP := (⟨"SnowKeepsLaw", "prints", "(LSnowKeeps;II[J)I"⟩, method_17_code, 5, (Option.some FieldType.int), [(0, 10, 13, 19)], none)
abbrev ip_334 : InfP := (⟨"SnowKeepsLaw", "age", "(LSnowKeeps;II[J)I"⟩, method_18_code, 5, (Option.some FieldType.int), [(0, 10, 13, 19)], none)
abbrev ip_335 : InfP := (⟨"SnowKeepsLaw", "seen", "(LSnowKeeps;IZ[J)I"⟩, method_19_code, 5, (Option.some FieldType.int), [(0, 10, 13, 19)], none)
abbrev ip_336 : InfP := (⟨"SnowKeepsLaw", "crossing", "(LSnowKeeps;II[J)I"⟩, method_20_code, 5, (Option.some FieldType.int), [(0, 10, 13, 19)], none)
abbrev ip_337 : InfP := (⟨"SnowKeepsLaw", "fades", "(LSnowKeeps;II[J)I"⟩, method_21_code, 5, (Option.some FieldType.int), [(0, 10, 13, 19)], none)
abbrev ip_338 : InfP := (⟨"SnowKeepsLaw", "hired", "(LSnowKeeps;I[J)I"⟩, method_22_code, 4, (Option.some FieldType.int), [(0, 9, 12, 19)], none)
abbrev ip_339 : InfP := (⟨"SnowKeepsLaw", "remains", "(LSnowKeeps;II[J)I"⟩, method_23_code, 5, (Option.some FieldType.int), [(0, 10, 13, 19), (0, 10, 17, 13)], none)
abbrev ip_340 : InfP := (⟨"SnowKeepsLaw", "hires", "(LSnowKeeps;II[J)I"⟩, method_24_code, 5, (Option.some FieldType.int), [(0, 10, 13, 19), (0, 10, 17, 13)], none)
abbrev ip_341 : InfP := (⟨"SnowKeepsLaw", "wolf", "(LSnowKeeps;II[J)I"⟩, method_25_code, 5, (Option.some FieldType.int), [(0, 10, 13, 19), (0, 10, 17, 13)], none)
abbrev ip_342 : InfP := (⟨"SnowKeepsLaw", "hound", "(LSnowKeeps;II[J)I"⟩, method_26_code, 5, (Option.some FieldType.int), [(0, 10, 13, 19), (0, 10, 17, 13)], none)
abbrev ip_343 : InfP := (⟨"SnowKeepsLaw", "hunter", "(LSnowKeeps;II[J)I"⟩, method_27_code, 5, (Option.some FieldType.int), [(0, 10, 13, 19), (0, 10, 17, 13)], none)
abbrev ip_344 : InfP := (⟨"SnowKeepsLaw", "hunts", "(LSnowKeeps;II[J)I"⟩, method_28_code, 5, (Option.some FieldType.int), [(0, 10, 13, 19)], none)
abbrev ip_345 : InfP := (⟨"SnowKeepsLaw", "meets", "(LSnowKeeps;II[J)I"⟩, method_29_code, 5, (Option.some FieldType.int), [(0, 10, 13, 19)], none)
abbrev ip_346 : InfP := (⟨"SnowKeepsLaw", "blur", "(LSnowKeeps;III[J)I"⟩, method_30_code, 6, (Option.some FieldType.int), [(0, 12, 15, 19), (0, 12, 19, 13)], none)
abbrev ip_347 : InfP := (⟨"SnowKeepsLaw", "homes", "(LSnowKeeps;II[J)I"⟩, method_31_code, 5, (Option.some FieldType.int), [(0, 10, 13, 13)], none)
abbrev ip_348 : InfP := (⟨"SnowKeepsLaw", "bargain", "(LSnowKeeps;I[J)I"⟩, method_32_code, 4, (Option.some FieldType.int), [(0, 9, 12, 19), (0, 9, 15, 48), (0, 9, 18, 13)], none)
abbrev ip_349 : InfP := (⟨"SnowKeepsLaw", "retrace", "(LSnowKeeps;II[J)I"⟩, method_33_code, 5, (Option.some FieldType.int), [(0, 10, 13, 19), (0, 10, 17, 13)], none)
abbrev ip_350 : InfP := (⟨"SnowKeepsLaw", "goesBack", "(LSnowKeeps;I[J)I"⟩, method_34_code, 4, (Option.some FieldType.int), [(0, 9, 12, 19)], none)
abbrev ip_351 : InfP := (⟨"SnowKeepsLaw", "rows", "(LSnowKeeps;I[J)I"⟩, method_35_code, 4, (Option.some FieldType.int), [(0, 8, 11, 19)], none)
abbrev ip_352 : InfP := (⟨"SnowKeepsLaw", "row", "(LSnowKeeps;IJI[J)I"⟩, method_36_code, 7, (Option.some FieldType.int), [(0, 13, 16, 19)], none)
abbrev ip_353 : InfP := (⟨"SnowKeepsLaw", "sure", "(LSnowKeeps;IZ[J)I"⟩, method_37_code, 5, (Option.some FieldType.int), [(0, 10, 13, 19)], none)
abbrev ip_354 : InfP := (⟨"SnowKeepsLaw", "two", "(LSnowKeeps;II[J)I"⟩, method_38_code, 5, (Option.some FieldType.int), [(0, 9, 12, 19)], none)
abbrev ip_355 : InfP := (⟨"SnowKeepsLaw", "clear", "(LSnowKeeps;IIZ[J)I"⟩, method_39_code, 6, (Option.some FieldType.int), [(0, 12, 15, 19), (0, 12, 19, 13)], none)
abbrev ip_356 : InfP := (⟨"SnowKeepsLaw", "signs", "(LSnowKeeps;II[J)I"⟩, method_40_code, 5, (Option.some FieldType.int), [(0, 10, 13, 19), (0, 10, 17, 13)], none)
abbrev ip_357 : InfP := (⟨"SnowKeepsLaw", "writes", "(LSnowKeeps;II[J)I"⟩, method_41_code, 5, (Option.some FieldType.int), [(0, 10, 13, 19), (0, 10, 17, 48), (0, 10, 21, 13)], none)
abbrev ip_358 : InfP := (⟨"SnowKeepsLaw", "pens", "(LSnowKeeps;I[J)I"⟩, method_42_code, 4, (Option.some FieldType.int), [(0, 9, 12, 19), (0, 9, 15, 48), (0, 9, 18, 13)], none)
abbrev ip_359 : InfP := (⟨"SnowKeepsLaw", "patrol", "(LSnowKeeps;I[J)I"⟩, method_43_code, 4, (Option.some FieldType.int), [(0, 9, 12, 19), (0, 9, 15, 48), (0, 9, 18, 13)], none)
abbrev ip_360 : InfP := (⟨"SnowKeepsLaw", "tends", "(LSnowKeeps;I[J)I"⟩, method_44_code, 4, (Option.some FieldType.int), [(0, 16, 19, 19), (0, 16, 22, 48), (0, 16, 25, 13)], none)
abbrev ip_361 : InfP := (⟨"SnowKeepsLaw", "crowd", "(LSnowKeeps;I[J)I"⟩, method_45_code, 4, (Option.some FieldType.int), [(0, 9, 12, 19), (0, 9, 15, 48), (0, 9, 18, 13)], none)
abbrev ip_362 : InfP := (⟨"SnowKeepsLaw", "lasts", "(LSnowKeeps;I[J)I"⟩, method_46_code, 4, (Option.some FieldType.int), [(0, 9, 12, 19), (0, 9, 15, 48), (0, 9, 18, 13)], none)
abbrev ip_363 : InfP := (⟨"SnowKeepsLaw", "reads", "(LSnowKeeps;I[J)I"⟩, method_47_code, 4, (Option.some FieldType.int), [(0, 9, 12, 19), (0, 9, 15, 48)], none)
abbrev ip_364 : InfP := (⟨"SnowKeepsLaw", "tray", "(LSnowKeeps;III)I"⟩, method_48_code, 5, (Option.some FieldType.int), [(0, 7, 10, 19), (0, 7, 14, 13)], none)
abbrev ip_365 : InfP := (⟨"SnowKeepsLaw", "write", "(LSnowKeeps;IIJ[J)I"⟩, method_49_code, 7, (Option.some FieldType.int), [(0, 11, 14, 19), (0, 11, 18, 48), (0, 11, 22, 167)], none)
abbrev ip_366 : InfP := (⟨"SnowKeepsLaw", "image", "(LSnowKeeps;I)I"⟩, method_50_code, 3, (Option.some FieldType.int), [(0, 5, 8, 19)], none)
abbrev ip_367 : InfP := (⟨"SnowKeepsLaw", "restore", "(LSnowKeeps;I)I"⟩, method_51_code, 3, (Option.some FieldType.int), [(0, 5, 8, 19), (0, 5, 11, 48)], none)
abbrev ip_368 : InfP := (⟨"SnowKeepsLaw", "law", "([I)Z"⟩, code, 8, (Option.some FieldType.boolean), [], none)
def IL_0 : List InfP := [ip_0, ip_1, ip_2, ip_3, ip_4, ip_5, ip_6, ip_7, ip_8, ip_9, ip_10, ip_11, ip_12, ip_13, ip_14, ip_15, ip_16, ip_17, ip_18, ip_19, ip_20, ip_21, ip_22, ip_23, ip_24, ip_25, ip_26, ip_27, ip_28, ip_29, ip_30, ip_31, ip_32, ip_33, ip_34, ip_35, ip_36, ip_37, ip_38, ip_39, ip_40, ip_41, ip_42, ip_43, ip_44, ip_45, ip_46, ip_47, ip_48, ip_49]
def IL_1 : List InfP := [ip_50, ip_51, ip_52, ip_53, ip_54, ip_55, ip_56, ip_57, ip_58, ip_59, ip_60, ip_61, ip_62, ip_63, ip_64, ip_65, ip_66, ip_67, ip_68, ip_69, ip_70, ip_71, ip_72, ip_73, ip_74, ip_75, ip_76, ip_77, ip_78, ip_79, ip_80, ip_81, ip_82, ip_83, ip_84, ip_85, ip_86, ip_87, ip_88, ip_89, ip_90, ip_91, ip_92, ip_93, ip_94, ip_95, ip_96, ip_97, ip_98, ip_99]
def IL_2 : List InfP := [ip_100, ip_101, ip_102, ip_103, ip_104, ip_105, ip_106, ip_107, ip_108, ip_109, ip_110, ip_111, ip_112, ip_113, ip_114, ip_115, ip_116, ip_117, ip_118, ip_119, ip_120, ip_121, ip_122, ip_123, ip_124, ip_125, ip_126, ip_127, ip_128, ip_129, ip_130, ip_131, ip_132, ip_133, ip_134, ip_135, ip_136, ip_137, ip_138, ip_139, ip_140, ip_141, ip_142, ip_143, ip_144, ip_145, ip_146, ip_147, ip_148, ip_149]
def IL_3 : List InfP := [ip_150, ip_151, ip_152, ip_153, ip_154, ip_155, ip_156, ip_157, ip_158, ip_159, ip_160, ip_161, ip_162, ip_163, ip_164, ip_165, ip_166, ip_167, ip_168, ip_169, ip_170, ip_171, ip_172, ip_173, ip_174, ip_175, ip_176, ip_177, ip_178, ip_179, ip_180, ip_181, ip_182, ip_183, ip_184, ip_185, ip_186, ip_187, ip_188, ip_189, ip_190, ip_191, ip_192, ip_193, ip_194, ip_195, ip_196, ip_197, ip_198, ip_199]
def IL_4 : List InfP := [ip_200, ip_201, ip_202, ip_203, ip_204, ip_205, ip_206, ip_207, ip_208, ip_209, ip_210, ip_211, ip_212, ip_213, ip_214, ip_215, ip_216, ip_217, ip_218, ip_219, ip_220, ip_221, ip_222, ip_223, ip_224, ip_225, ip_226, ip_227, ip_228, ip_229, ip_230, ip_231, ip_232, ip_233, ip_234, ip_235, ip_236, ip_237, ip_238, ip_239, ip_240, ip_241, ip_242, ip_243, ip_244, ip_245, ip_246, ip_247, ip_248, ip_249]
def IL_5 : List InfP := [ip_250, ip_251, ip_252, ip_253, ip_254, ip_255, ip_256, ip_257, ip_258, ip_259, ip_260, ip_261, ip_262, ip_263, ip_264, ip_265, ip_266, ip_267, ip_268, ip_269, ip_270, ip_271, ip_272, ip_273, ip_274, ip_275, ip_276, ip_277, ip_278, ip_279, ip_280, ip_281, ip_282, ip_283, ip_284, ip_285, ip_286, ip_287, ip_288, ip_289, ip_290, ip_291, ip_292, ip_293, ip_294, ip_295, ip_296, ip_297, ip_298, ip_299]
def IL_6 : List InfP := [ip_300, ip_301, ip_302, ip_303, ip_304, ip_305, ip_306, ip_307, ip_308, ip_309, ip_310, ip_311, ip_312, ip_313, ip_314, ip_315, ip_316, ip_317, ip_318, ip_319, ip_320, ip_321, ip_322, ip_323, ip_324, ip_325, ip_326, ip_327, ip_328, ip_329, ip_330, ip_331, ip_332, ip_333, ip_334, ip_335, ip_336, ip_337, ip_338, ip_339, ip_340, ip_341, ip_342, ip_343, ip_344, ip_345, ip_346, ip_347, ip_348, ip_349]
def IL_7 : List InfP := [ip_350, ip_351, ip_352, ip_353, ip_354, ip_355, ip_356, ip_357, ip_358, ip_359, ip_360, ip_361, ip_362, ip_363, ip_364, ip_365, ip_366, ip_367, ip_368]
def IP (m : Nat) : InfP := (if m < 50 then IL_0.getD (m - 0) ip_0 else (if m < 100 then IL_1.getD (m - 50) ip_0 else (if m < 150 then IL_2.getD (m - 100) ip_0 else (if m < 200 then IL_3.getD (m - 150) ip_0 else (if m < 250 then IL_4.getD (m - 200) ip_0 else (if m < 300 then IL_5.getD (m - 250) ip_0 else (if m < 350 then IL_6.getD (m - 300) ip_0 else (if m < 400 then IL_7.getD (m - 350) ip_0 else ip_0))))))))
theorem ie_0 : IP 0 = ip_0 := rfl
theorem ie_1 : IP 1 = ip_1 := rfl
theorem ie_2 : IP 2 = ip_2 := rfl
theorem ie_3 : IP 3 = ip_3 := rfl
theorem ie_4 : IP 4 = ip_4 := rfl
theorem ie_5 : IP 5 = ip_5 := rfl
theorem ie_6 : IP 6 = ip_6 := rfl
theorem ie_7 : IP 7 = ip_7 := rfl
theorem ie_8 : IP 8 = ip_8 := rfl
theorem ie_9 : IP 9 = ip_9 := rfl
theorem ie_10 : IP 10 = ip_10 := rfl
theorem ie_11 : IP 11 = ip_11 := rfl
theorem ie_12 : IP 12 = ip_12 := rfl
theorem ie_13 : IP 13 = ip_13 := rfl
theorem ie_14 : IP 14 = ip_14 := rfl
theorem ie_15 : IP 15 = ip_15 := rfl
theorem ie_16 : IP 16 = ip_16 := rfl
theorem ie_17 : IP 17 = ip_17 := rfl
theorem ie_18 : IP 18 = ip_18 := rfl
theorem ie_19 : IP 19 = ip_19 := rfl
theorem ie_20 : IP 20 = ip_20 := rfl
theorem ie_21 : IP 21 = ip_21 := rfl
theorem ie_22 : IP 22 = ip_22 := rfl
theorem ie_23 : IP 23 = ip_23 := rfl
theorem ie_24 : IP 24 = ip_24 := rfl
theorem ie_25 : IP 25 = ip_25 := rfl
theorem ie_26 : IP 26 = ip_26 := rfl
theorem ie_27 : IP 27 = ip_27 := rfl
theorem ie_28 : IP 28 = ip_28 := rfl
theorem ie_29 : IP 29 = ip_29 := rfl
theorem ie_30 : IP 30 = ip_30 := rfl
theorem ie_31 : IP 31 = ip_31 := rfl
theorem ie_32 : IP 32 = ip_32 := rfl
theorem ie_33 : IP 33 = ip_33 := rfl
theorem ie_34 : IP 34 = ip_34 := rfl
theorem ie_35 : IP 35 = ip_35 := rfl
theorem ie_36 : IP 36 = ip_36 := rfl
theorem ie_37 : IP 37 = ip_37 := rfl
theorem ie_38 : IP 38 = ip_38 := rfl
theorem ie_39 : IP 39 = ip_39 := rfl
theorem ie_40 : IP 40 = ip_40 := rfl
theorem ie_41 : IP 41 = ip_41 := rfl
theorem ie_42 : IP 42 = ip_42 := rfl
theorem ie_43 : IP 43 = ip_43 := rfl
theorem ie_44 : IP 44 = ip_44 := rfl
theorem ie_45 : IP 45 = ip_45 := rfl
theorem ie_46 : IP 46 = ip_46 := rfl
theorem ie_47 : IP 47 = ip_47 := rfl
theorem ie_48 : IP 48 = ip_48 := rfl
theorem ie_49 : IP 49 = ip_49 := rfl
theorem ie_50 : IP 50 = ip_50 := rfl
theorem ie_51 : IP 51 = ip_51 := rfl
theorem ie_52 : IP 52 = ip_52 := rfl
theorem ie_53 : IP 53 = ip_53 := rfl
theorem ie_54 : IP 54 = ip_54 := rfl
theorem ie_55 : IP 55 = ip_55 := rfl
theorem ie_56 : IP 56 = ip_56 := rfl
theorem ie_57 : IP 57 = ip_57 := rfl
theorem ie_58 : IP 58 = ip_58 := rfl
theorem ie_59 : IP 59 = ip_59 := rfl
theorem ie_60 : IP 60 = ip_60 := rfl
theorem ie_61 : IP 61 = ip_61 := rfl
theorem ie_62 : IP 62 = ip_62 := rfl
theorem ie_63 : IP 63 = ip_63 := rfl
theorem ie_64 : IP 64 = ip_64 := rfl
theorem ie_65 : IP 65 = ip_65 := rfl
theorem ie_66 : IP 66 = ip_66 := rfl
theorem ie_67 : IP 67 = ip_67 := rfl
theorem ie_68 : IP 68 = ip_68 := rfl
theorem ie_69 : IP 69 = ip_69 := rfl
theorem ie_70 : IP 70 = ip_70 := rfl
theorem ie_71 : IP 71 = ip_71 := rfl
theorem ie_72 : IP 72 = ip_72 := rfl
theorem ie_73 : IP 73 = ip_73 := rfl
theorem ie_74 : IP 74 = ip_74 := rfl
theorem ie_75 : IP 75 = ip_75 := rfl
theorem ie_76 : IP 76 = ip_76 := rfl
theorem ie_77 : IP 77 = ip_77 := rfl
theorem ie_78 : IP 78 = ip_78 := rfl
theorem ie_79 : IP 79 = ip_79 := rfl
theorem ie_80 : IP 80 = ip_80 := rfl
theorem ie_81 : IP 81 = ip_81 := rfl
theorem ie_82 : IP 82 = ip_82 := rfl
theorem ie_83 : IP 83 = ip_83 := rfl
theorem ie_84 : IP 84 = ip_84 := rfl
theorem ie_85 : IP 85 = ip_85 := rfl
theorem ie_86 : IP 86 = ip_86 := rfl
theorem ie_87 : IP 87 = ip_87 := rfl
theorem ie_88 : IP 88 = ip_88 := rfl
theorem ie_89 : IP 89 = ip_89 := rfl
theorem ie_90 : IP 90 = ip_90 := rfl
theorem ie_91 : IP 91 = ip_91 := rfl
theorem ie_92 : IP 92 = ip_92 := rfl
theorem ie_93 : IP 93 = ip_93 := rfl
theorem ie_94 : IP 94 = ip_94 := rfl
theorem ie_95 : IP 95 = ip_95 := rfl
theorem ie_96 : IP 96 = ip_96 := rfl
theorem ie_97 : IP 97 = ip_97 := rfl
theorem ie_98 : IP 98 = ip_98 := rfl
theorem ie_99 : IP 99 = ip_99 := rfl
theorem ie_100 : IP 100 = ip_100 := rfl
theorem ie_101 : IP 101 = ip_101 := rfl
theorem ie_102 : IP 102 = ip_102 := rfl
theorem ie_103 : IP 103 = ip_103 := rfl
theorem ie_104 : IP 104 = ip_104 := rfl
theorem ie_105 : IP 105 = ip_105 := rfl
theorem ie_106 : IP 106 = ip_106 := rfl
theorem ie_107 : IP 107 = ip_107 := rfl
theorem ie_108 : IP 108 = ip_108 := rfl
theorem ie_109 : IP 109 = ip_109 := rfl
theorem ie_110 : IP 110 = ip_110 := rfl
theorem ie_111 : IP 111 = ip_111 := rfl
theorem ie_112 : IP 112 = ip_112 := rfl
theorem ie_113 : IP 113 = ip_113 := rfl
theorem ie_114 : IP 114 = ip_114 := rfl
theorem ie_115 : IP 115 = ip_115 := rfl
theorem ie_116 : IP 116 = ip_116 := rfl
theorem ie_117 : IP 117 = ip_117 := rfl
theorem ie_118 : IP 118 = ip_118 := rfl
theorem ie_119 : IP 119 = ip_119 := rfl
theorem ie_120 : IP 120 = ip_120 := rfl
theorem ie_121 : IP 121 = ip_121 := rfl
theorem ie_122 : IP 122 = ip_122 := rfl
theorem ie_123 : IP 123 = ip_123 := rfl
theorem ie_124 : IP 124 = ip_124 := rfl
theorem ie_125 : IP 125 = ip_125 := rfl
theorem ie_126 : IP 126 = ip_126 := rfl
theorem ie_127 : IP 127 = ip_127 := rfl
theorem ie_128 : IP 128 = ip_128 := rfl
theorem ie_129 : IP 129 = ip_129 := rfl
theorem ie_130 : IP 130 = ip_130 := rfl
theorem ie_131 : IP 131 = ip_131 := rfl
theorem ie_132 : IP 132 = ip_132 := rfl
theorem ie_133 : IP 133 = ip_133 := rfl
theorem ie_134 : IP 134 = ip_134 := rfl
theorem ie_135 : IP 135 = ip_135 := rfl
theorem ie_136 : IP 136 = ip_136 := rfl
theorem ie_137 : IP 137 = ip_137 := rfl
theorem ie_138 : IP 138 = ip_138 := rfl
theorem ie_139 : IP 139 = ip_139 := rfl
theorem ie_140 : IP 140 = ip_140 := rfl
theorem ie_141 : IP 141 = ip_141 := rfl
theorem ie_142 : IP 142 = ip_142 := rfl
theorem ie_143 : IP 143 = ip_143 := rfl
theorem ie_144 : IP 144 = ip_144 := rfl
theorem ie_145 : IP 145 = ip_145 := rfl
theorem ie_146 : IP 146 = ip_146 := rfl
theorem ie_147 : IP 147 = ip_147 := rfl
theorem ie_148 : IP 148 = ip_148 := rfl
theorem ie_149 : IP 149 = ip_149 := rfl
theorem ie_150 : IP 150 = ip_150 := rfl
theorem ie_151 : IP 151 = ip_151 := rfl
theorem ie_152 : IP 152 = ip_152 := rfl
theorem ie_153 : IP 153 = ip_153 := rfl
theorem ie_154 : IP 154 = ip_154 := rfl
theorem ie_155 : IP 155 = ip_155 := rfl
theorem ie_156 : IP 156 = ip_156 := rfl
theorem ie_157 : IP 157 = ip_157 := rfl
theorem ie_158 : IP 158 = ip_158 := rfl
theorem ie_159 : IP 159 = ip_159 := rfl
theorem ie_160 : IP 160 = ip_160 := rfl
theorem ie_161 : IP 161 = ip_161 := rfl
theorem ie_162 : IP 162 = ip_162 := rfl
theorem ie_163 : IP 163 = ip_163 := rfl
theorem ie_164 : IP 164 = ip_164 := rfl
theorem ie_165 : IP 165 = ip_165 := rfl
theorem ie_166 : IP 166 = ip_166 := rfl
theorem ie_167 : IP 167 = ip_167 := rfl
theorem ie_168 : IP 168 = ip_168 := rfl
theorem ie_169 : IP 169 = ip_169 := rfl
theorem ie_170 : IP 170 = ip_170 := rfl
theorem ie_171 : IP 171 = ip_171 := rfl
theorem ie_172 : IP 172 = ip_172 := rfl
theorem ie_173 : IP 173 = ip_173 := rfl
theorem ie_174 : IP 174 = ip_174 := rfl
theorem ie_175 : IP 175 = ip_175 := rfl
theorem ie_176 : IP 176 = ip_176 := rfl
theorem ie_177 : IP 177 = ip_177 := rfl
theorem ie_178 : IP 178 = ip_178 := rfl
theorem ie_179 : IP 179 = ip_179 := rfl
theorem ie_180 : IP 180 = ip_180 := rfl
theorem ie_181 : IP 181 = ip_181 := rfl
theorem ie_182 : IP 182 = ip_182 := rfl
theorem ie_183 : IP 183 = ip_183 := rfl
theorem ie_184 : IP 184 = ip_184 := rfl
theorem ie_185 : IP 185 = ip_185 := rfl
theorem ie_186 : IP 186 = ip_186 := rfl
theorem ie_187 : IP 187 = ip_187 := rfl
theorem ie_188 : IP 188 = ip_188 := rfl
theorem ie_189 : IP 189 = ip_189 := rfl
theorem ie_190 : IP 190 = ip_190 := rfl
theorem ie_191 : IP 191 = ip_191 := rfl
theorem ie_192 : IP 192 = ip_192 := rfl
theorem ie_193 : IP 193 = ip_193 := rfl
theorem ie_194 : IP 194 = ip_194 := rfl
theorem ie_195 : IP 195 = ip_195 := rfl
theorem ie_196 : IP 196 = ip_196 := rfl
theorem ie_197 : IP 197 = ip_197 := rfl
theorem ie_198 : IP 198 = ip_198 := rfl
theorem ie_199 : IP 199 = ip_199 := rfl
theorem ie_200 : IP 200 = ip_200 := rfl
theorem ie_201 : IP 201 = ip_201 := rfl
theorem ie_202 : IP 202 = ip_202 := rfl
theorem ie_203 : IP 203 = ip_203 := rfl
theorem ie_204 : IP 204 = ip_204 := rfl
theorem ie_205 : IP 205 = ip_205 := rfl
theorem ie_206 : IP 206 = ip_206 := rfl
theorem ie_207 : IP 207 = ip_207 := rfl
theorem ie_208 : IP 208 = ip_208 := rfl
theorem ie_209 : IP 209 = ip_209 := rfl
theorem ie_210 : IP 210 = ip_210 := rfl
theorem ie_211 : IP 211 = ip_211 := rfl
theorem ie_212 : IP 212 = ip_212 := rfl
theorem ie_213 : IP 213 = ip_213 := rfl
theorem ie_214 : IP 214 = ip_214 := rfl
theorem ie_215 : IP 215 = ip_215 := rfl
theorem ie_216 : IP 216 = ip_216 := rfl
theorem ie_217 : IP 217 = ip_217 := rfl
theorem ie_218 : IP 218 = ip_218 := rfl
theorem ie_219 : IP 219 = ip_219 := rfl
theorem ie_220 : IP 220 = ip_220 := rfl
theorem ie_221 : IP 221 = ip_221 := rfl
theorem ie_222 : IP 222 = ip_222 := rfl
theorem ie_223 : IP 223 = ip_223 := rfl
theorem ie_224 : IP 224 = ip_224 := rfl
theorem ie_225 : IP 225 = ip_225 := rfl
theorem ie_226 : IP 226 = ip_226 := rfl
theorem ie_227 : IP 227 = ip_227 := rfl
theorem ie_228 : IP 228 = ip_228 := rfl
theorem ie_229 : IP 229 = ip_229 := rfl
theorem ie_230 : IP 230 = ip_230 := rfl
theorem ie_231 : IP 231 = ip_231 := rfl
theorem ie_232 : IP 232 = ip_232 := rfl
theorem ie_233 : IP 233 = ip_233 := rfl
theorem ie_234 : IP 234 = ip_234 := rfl
theorem ie_235 : IP 235 = ip_235 := rfl
theorem ie_236 : IP 236 = ip_236 := rfl
theorem ie_237 : IP 237 = ip_237 := rfl
theorem ie_238 : IP 238 = ip_238 := rfl
theorem ie_239 : IP 239 = ip_239 := rfl
theorem ie_240 : IP 240 = ip_240 := rfl
theorem ie_241 : IP 241 = ip_241 := rfl
theorem ie_242 : IP 242 = ip_242 := rfl
theorem ie_243 : IP 243 = ip_243 := rfl
theorem ie_244 : IP 244 = ip_244 := rfl
theorem ie_245 : IP 245 = ip_245 := rfl
theorem ie_246 : IP 246 = ip_246 := rfl
theorem ie_247 : IP 247 = ip_247 := rfl
theorem ie_248 : IP 248 = ip_248 := rfl
theorem ie_249 : IP 249 = ip_249 := rfl
theorem ie_250 : IP 250 = ip_250 := rfl
theorem ie_251 : IP 251 = ip_251 := rfl
theorem ie_252 : IP 252 = ip_252 := rfl
theorem ie_253 : IP 253 = ip_253 := rfl
theorem ie_254 : IP 254 = ip_254 := rfl
theorem ie_255 : IP 255 = ip_255 := rfl
theorem ie_256 : IP 256 = ip_256 := rfl
theorem ie_257 : IP 257 = ip_257 := rfl
theorem ie_258 : IP 258 = ip_258 := rfl
theorem ie_259 : IP 259 = ip_259 := rfl
theorem ie_260 : IP 260 = ip_260 := rfl
theorem ie_261 : IP 261 = ip_261 := rfl
theorem ie_262 : IP 262 = ip_262 := rfl
theorem ie_263 : IP 263 = ip_263 := rfl
theorem ie_264 : IP 264 = ip_264 := rfl
theorem ie_265 : IP 265 = ip_265 := rfl
theorem ie_266 : IP 266 = ip_266 := rfl
theorem ie_267 : IP 267 = ip_267 := rfl
theorem ie_268 : IP 268 = ip_268 := rfl
theorem ie_269 : IP 269 = ip_269 := rfl
theorem ie_270 : IP 270 = ip_270 := rfl
theorem ie_271 : IP 271 = ip_271 := rfl
theorem ie_272 : IP 272 = ip_272 := rfl
theorem ie_273 : IP 273 = ip_273 := rfl
theorem ie_274 : IP 274 = ip_274 := rfl
theorem ie_275 : IP 275 = ip_275 := rfl
theorem ie_276 : IP 276 = ip_276 := rfl
theorem ie_277 : IP 277 = ip_277 := rfl
theorem ie_278 : IP 278 = ip_278 := rfl
theorem ie_279 : IP 279 = ip_279 := rfl
theorem ie_280 : IP 280 = ip_280 := rfl
theorem ie_281 : IP 281 = ip_281 := rfl
theorem ie_282 : IP 282 = ip_282 := rfl
theorem ie_283 : IP 283 = ip_283 := rfl
theorem ie_284 : IP 284 = ip_284 := rfl
theorem ie_285 : IP 285 = ip_285 := rfl
theorem ie_286 : IP 286 = ip_286 := rfl
theorem ie_287 : IP 287 = ip_287 := rfl
theorem ie_288 : IP 288 = ip_288 := rfl
theorem ie_289 : IP 289 = ip_289 := rfl
theorem ie_290 : IP 290 = ip_290 := rfl
theorem ie_291 : IP 291 = ip_291 := rfl
theorem ie_292 : IP 292 = ip_292 := rfl
theorem ie_293 : IP 293 = ip_293 := rfl
theorem ie_294 : IP 294 = ip_294 := rfl
theorem ie_295 : IP 295 = ip_295 := rfl
theorem ie_296 : IP 296 = ip_296 := rfl
theorem ie_297 : IP 297 = ip_297 := rfl
theorem ie_298 : IP 298 = ip_298 := rfl
theorem ie_299 : IP 299 = ip_299 := rfl
theorem ie_300 : IP 300 = ip_300 := rfl
theorem ie_301 : IP 301 = ip_301 := rfl
theorem ie_302 : IP 302 = ip_302 := rfl
theorem ie_303 : IP 303 = ip_303 := rfl
theorem ie_304 : IP 304 = ip_304 := rfl
theorem ie_305 : IP 305 = ip_305 := rfl
theorem ie_306 : IP 306 = ip_306 := rfl
theorem ie_307 : IP 307 = ip_307 := rfl
theorem ie_308 : IP 308 = ip_308 := rfl
theorem ie_309 : IP 309 = ip_309 := rfl
theorem ie_310 : IP 310 = ip_310 := rfl
theorem ie_311 : IP 311 = ip_311 := rfl
theorem ie_312 : IP 312 = ip_312 := rfl
theorem ie_313 : IP 313 = ip_313 := rfl
theorem ie_314 : IP 314 = ip_314 := rfl
theorem ie_315 : IP 315 = ip_315 := rfl
theorem ie_316 : IP 316 = ip_316 := rfl
theorem ie_317 : IP 317 = ip_317 := rfl
theorem ie_318 : IP 318 = ip_318 := rfl
theorem ie_319 : IP 319 = ip_319 := rfl
theorem ie_320 : IP 320 = ip_320 := rfl
theorem ie_321 : IP 321 = ip_321 := rfl
theorem ie_322 : IP 322 = ip_322 := rfl
theorem ie_323 : IP 323 = ip_323 := rfl
theorem ie_324 : IP 324 = ip_324 := rfl
theorem ie_325 : IP 325 = ip_325 := rfl
theorem ie_326 : IP 326 = ip_326 := rfl
theorem ie_327 : IP 327 = ip_327 := rfl
theorem ie_328 : IP 328 = ip_328 := rfl
theorem ie_329 : IP 329 = ip_329 := rfl
theorem ie_330 : IP 330 = ip_330 := rfl
theorem ie_331 : IP 331 = ip_331 := rfl
theorem ie_332 : IP 332 = ip_332 := rfl
theorem ie_333 : IP 333 = ip_333 := rfl
theorem ie_334 : IP 334 = ip_334 := rfl
theorem ie_335 : IP 335 = ip_335 := rfl
theorem ie_336 : IP 336 = ip_336 := rfl
theorem ie_337 : IP 337 = ip_337 := rfl
theorem ie_338 : IP 338 = ip_338 := rfl
theorem ie_339 : IP 339 = ip_339 := rfl
theorem ie_340 : IP 340 = ip_340 := rfl
theorem ie_341 : IP 341 = ip_341 := rfl
theorem ie_342 : IP 342 = ip_342 := rfl
theorem ie_343 : IP 343 = ip_343 := rfl
theorem ie_344 : IP 344 = ip_344 := rfl
theorem ie_345 : IP 345 = ip_345 := rfl
theorem ie_346 : IP 346 = ip_346 := rfl
theorem ie_347 : IP 347 = ip_347 := rfl
theorem ie_348 : IP 348 = ip_348 := rfl
theorem ie_349 : IP 349 = ip_349 := rfl
theorem ie_350 : IP 350 = ip_350 := rfl
theorem ie_351 : IP 351 = ip_351 := rfl
theorem ie_352 : IP 352 = ip_352 := rfl
theorem ie_353 : IP 353 = ip_353 := rfl
theorem ie_354 : IP 354 = ip_354 := rfl
theorem ie_355 : IP 355 = ip_355 := rfl
theorem ie_356 : IP 356 = ip_356 := rfl
theorem ie_357 : IP 357 = ip_357 := rfl
theorem ie_358 : IP 358 = ip_358 := rfl
theorem ie_359 : IP 359 = ip_359 := rfl
theorem ie_360 : IP 360 = ip_360 := rfl
theorem ie_361 : IP 361 = ip_361 := rfl
theorem ie_362 : IP 362 = ip_362 := rfl
theorem ie_363 : IP 363 = ip_363 := rfl
theorem ie_364 : IP 364 = ip_364 := rfl
theorem ie_365 : IP 365 = ip_365 := rfl
theorem ie_366 : IP 366 = ip_366 := rfl
theorem ie_367 : IP 367 = ip_367 := rfl
theorem mw_0 {own : String} {idx : Nat} : metW ip_0 own idx 2 := ⟨w_56, w_4, ⟨by decide +kernel, by decide +kernel⟩, by decide +kernel⟩
theorem mw_1 {own : String} {idx : Nat} : metW ip_1 own idx 2 := ⟨w_1582, w_4, ⟨by decide +kernel, by decide +kernel⟩, by decide +kernel⟩
theorem mw_2 {own : String} {idx : Nat} : metW ip_2 own idx 3 := ⟨w_510, w_4, ⟨by decide +kernel, by decide +kernel⟩, by decide +kernel⟩
theorem mw_3 {own : String} {idx : Nat} : metW ip_3 own idx 4 := ⟨w_507, w_4, ⟨by decide +kernel, by decide +kernel⟩, by decide +kernel⟩
theorem mw_4 {own : String} {idx : Nat} : metW ip_4 own idx 1 := ⟨w_1233, w_28, ⟨by decide +kernel, by decide +kernel⟩, by decide +kernel⟩
theorem mw_5 {own : String} {idx : Nat} : metW ip_5 own idx 0 := ⟨w_666, w_19, ⟨by decide +kernel, by decide +kernel⟩, by decide +kernel⟩
theorem mw_6 {own : String} {idx : Nat} : metW ip_6 own idx 0 := ⟨w_941, w_19, ⟨by decide +kernel, by decide +kernel⟩, by decide +kernel⟩
theorem mw_7 {own : String} {idx : Nat} : metW ip_7 own idx 0 := ⟨w_662, w_19, ⟨by decide +kernel, by decide +kernel⟩, by decide +kernel⟩
theorem mw_8 {own : String} {idx : Nat} : metW ip_8 own idx 2 := ⟨w_944, w_20, ⟨by decide +kernel, by decide +kernel⟩, by decide +kernel⟩
theorem mw_9 {own : String} {idx : Nat} : metW ip_9 own idx 1 := ⟨w_937, w_19, ⟨by decide +kernel, by decide +kernel⟩, by decide +kernel⟩
theorem mw_10 {own : String} {idx : Nat} : metW ip_10 own idx 0 := ⟨w_210, w_7, ⟨by decide +kernel, by decide +kernel⟩, by decide +kernel⟩
theorem mw_11 {own : String} {idx : Nat} : metW ip_11 own idx 1 := ⟨w_1458, w_7, ⟨by decide +kernel, by decide +kernel⟩, by decide +kernel⟩
theorem mw_12 {own : String} {idx : Nat} : metW ip_12 own idx 3 := ⟨w_1464, w_7, ⟨by decide +kernel, by decide +kernel⟩, by decide +kernel⟩
theorem mw_13 {own : String} {idx : Nat} : metW ip_13 own idx 2 := ⟨w_1479, w_7, ⟨by decide +kernel, by decide +kernel⟩, by decide +kernel⟩
theorem mw_14 {own : String} {idx : Nat} : metW ip_14 own idx 1 := ⟨w_1484, w_7, ⟨by decide +kernel, by decide +kernel⟩, by decide +kernel⟩
theorem mw_15 {own : String} {idx : Nat} : metW ip_15 own idx 0 := ⟨w_180, w_5, ⟨by decide +kernel, by decide +kernel⟩, by decide +kernel⟩
theorem mw_16 {own : String} {idx : Nat} : metW ip_16 own idx 1 := ⟨w_1068, w_5, ⟨by decide +kernel, by decide +kernel⟩, by decide +kernel⟩
theorem mw_17 {own : String} {idx : Nat} : metW ip_17 own idx 2 := ⟨w_1073, w_5, ⟨by decide +kernel, by decide +kernel⟩, by decide +kernel⟩
theorem mw_18 {own : String} {idx : Nat} : metW ip_18 own idx 2 := ⟨w_1079, w_5, ⟨by decide +kernel, by decide +kernel⟩, by decide +kernel⟩
theorem mw_19 {own : String} {idx : Nat} : metW ip_19 own idx 1 := ⟨w_1083, w_5, ⟨by decide +kernel, by decide +kernel⟩, by decide +kernel⟩
theorem mw_20 {own : String} {idx : Nat} : metW ip_20 own idx 2 := ⟨w_1386, w_5, ⟨by decide +kernel, by decide +kernel⟩, by decide +kernel⟩
theorem mw_21 {own : String} {idx : Nat} : metW ip_21 own idx 2 := ⟨w_1391, w_5, ⟨by decide +kernel, by decide +kernel⟩, by decide +kernel⟩
theorem mw_22 {own : String} {idx : Nat} : metW ip_22 own idx 1 := ⟨w_1409, w_5, ⟨by decide +kernel, by decide +kernel⟩, by decide +kernel⟩
theorem mw_23 {own : String} {idx : Nat} : metW ip_23 own idx 2 := ⟨w_1434, w_5, ⟨by decide +kernel, by decide +kernel⟩, by decide +kernel⟩
theorem mw_24 {own : String} {idx : Nat} : metW ip_24 own idx 0 := ⟨w_52, w_3, ⟨by decide +kernel, by decide +kernel⟩, by decide +kernel⟩
theorem mw_25 {own : String} {idx : Nat} : metW ip_25 own idx 1 := ⟨w_428, w_3, ⟨by decide +kernel, by decide +kernel⟩, by decide +kernel⟩
theorem mw_26 {own : String} {idx : Nat} : metW ip_26 own idx 2 := ⟨w_432, w_3, ⟨by decide +kernel, by decide +kernel⟩, by decide +kernel⟩
theorem mw_27 {own : String} {idx : Nat} : metW ip_27 own idx 1 := ⟨w_436, w_3, ⟨by decide +kernel, by decide +kernel⟩, by decide +kernel⟩
theorem mw_28 {own : String} {idx : Nat} : metW ip_28 own idx 1 := ⟨w_848, w_3, ⟨by decide +kernel, by decide +kernel⟩, by decide +kernel⟩
theorem mw_29 {own : String} {idx : Nat} : metW ip_29 own idx 1 := ⟨w_852, w_3, ⟨by decide +kernel, by decide +kernel⟩, by decide +kernel⟩
theorem mw_30 {own : String} {idx : Nat} : metW ip_30 own idx 2 := ⟨w_983, w_3, ⟨by decide +kernel, by decide +kernel⟩, by decide +kernel⟩
theorem mw_31 {own : String} {idx : Nat} : metW ip_31 own idx 1 := ⟨w_992, w_3, ⟨by decide +kernel, by decide +kernel⟩, by decide +kernel⟩
theorem mw_32 {own : String} {idx : Nat} : metW ip_32 own idx 1 := ⟨w_1001, w_3, ⟨by decide +kernel, by decide +kernel⟩, by decide +kernel⟩
theorem mw_33 {own : String} {idx : Nat} : metW ip_33 own idx 2 := ⟨w_1147, w_3, ⟨by decide +kernel, by decide +kernel⟩, by decide +kernel⟩
theorem mw_34 {own : String} {idx : Nat} : metW ip_34 own idx 1 := ⟨w_1256, w_3, ⟨by decide +kernel, by decide +kernel⟩, by decide +kernel⟩
theorem mw_35 {own : String} {idx : Nat} : metW ip_35 own idx 2 := ⟨w_1261, w_3, ⟨by decide +kernel, by decide +kernel⟩, by decide +kernel⟩
theorem mw_36 {own : String} {idx : Nat} : metW ip_36 own idx 2 := ⟨w_875, w_18, ⟨by decide +kernel, by decide +kernel⟩, by decide +kernel⟩
theorem mw_37 {own : String} {idx : Nat} : metW ip_37 own idx 0 := ⟨w_907, w_18, ⟨by decide +kernel, by decide +kernel⟩, by decide +kernel⟩
theorem mw_38 {own : String} {idx : Nat} : metW ip_38 own idx 0 := ⟨w_913, w_18, ⟨by decide +kernel, by decide +kernel⟩, by decide +kernel⟩
theorem mw_39 {own : String} {idx : Nat} : metW ip_39 own idx 1 := ⟨w_916, w_18, ⟨by decide +kernel, by decide +kernel⟩, by decide +kernel⟩
theorem mw_40 {own : String} {idx : Nat} : metW ip_40 own idx 1 := ⟨w_919, w_18, ⟨by decide +kernel, by decide +kernel⟩, by decide +kernel⟩
theorem mw_41 {own : String} {idx : Nat} : metW ip_41 own idx 0 := ⟨w_923, w_18, ⟨by decide +kernel, by decide +kernel⟩, by decide +kernel⟩
theorem mw_42 {own : String} {idx : Nat} : metW ip_42 own idx 1 := ⟨w_927, w_18, ⟨by decide +kernel, by decide +kernel⟩, by decide +kernel⟩
theorem mw_43 {own : String} {idx : Nat} : metW ip_43 own idx 1 := ⟨w_932, w_18, ⟨by decide +kernel, by decide +kernel⟩, by decide +kernel⟩
theorem mw_44 {own : String} {idx : Nat} : metW ip_44 own idx 1 := ⟨w_961, w_18, ⟨by decide +kernel, by decide +kernel⟩, by decide +kernel⟩
theorem mw_45 {own : String} {idx : Nat} : metW ip_45 own idx 2 := ⟨w_965, w_18, ⟨by decide +kernel, by decide +kernel⟩, by decide +kernel⟩
theorem mw_46 {own : String} {idx : Nat} : metW ip_46 own idx 1 := ⟨w_969, w_18, ⟨by decide +kernel, by decide +kernel⟩, by decide +kernel⟩
theorem mw_47 {own : String} {idx : Nat} : metW ip_47 own idx 1 := ⟨w_973, w_18, ⟨by decide +kernel, by decide +kernel⟩, by decide +kernel⟩
theorem mw_48 {own : String} {idx : Nat} : metW ip_48 own idx 1 := ⟨w_978, w_18, ⟨by decide +kernel, by decide +kernel⟩, by decide +kernel⟩
theorem mw_49 {own : String} {idx : Nat} : metW ip_49 own idx 1 := ⟨w_988, w_18, ⟨by decide +kernel, by decide +kernel⟩, by decide +kernel⟩
theorem mw_50 {own : String} {idx : Nat} : metW ip_50 own idx 1 := ⟨w_997, w_18, ⟨by decide +kernel, by decide +kernel⟩, by decide +kernel⟩
theorem mw_51 {own : String} {idx : Nat} : metW ip_51 own idx 1 := ⟨w_1006, w_18, ⟨by decide +kernel, by decide +kernel⟩, by decide +kernel⟩
theorem mw_52 {own : String} {idx : Nat} : metW ip_52 own idx 1 := ⟨w_1011, w_18, ⟨by decide +kernel, by decide +kernel⟩, by decide +kernel⟩
theorem mw_53 {own : String} {idx : Nat} : metW ip_53 own idx 1 := ⟨w_1016, w_18, ⟨by decide +kernel, by decide +kernel⟩, by decide +kernel⟩
theorem mw_54 {own : String} {idx : Nat} : metW ip_54 own idx 0 := ⟨w_294, w_10, ⟨by decide +kernel, by decide +kernel⟩, by decide +kernel⟩
theorem mw_55 {own : String} {idx : Nat} : metW ip_55 own idx 2 := ⟨w_1608, w_10, ⟨by decide +kernel, by decide +kernel⟩, by decide +kernel⟩
theorem mw_56 {own : String} {idx : Nat} : metW ip_56 own idx 2 := ⟨w_1619, w_10, ⟨by decide +kernel, by decide +kernel⟩, by decide +kernel⟩
theorem mw_57 {own : String} {idx : Nat} : metW ip_57 own idx 3 := ⟨w_1623, w_10, ⟨by decide +kernel, by decide +kernel⟩, by decide +kernel⟩
theorem mw_58 {own : String} {idx : Nat} : metW ip_58 own idx 1 := ⟨w_1643, w_10, ⟨by decide +kernel, by decide +kernel⟩, by decide +kernel⟩
theorem mw_59 {own : String} {idx : Nat} : metW ip_59 own idx 0 := ⟨w_46, w_2, ⟨by decide +kernel, by decide +kernel⟩, by decide +kernel⟩
theorem mw_60 {own : String} {idx : Nat} : metW ip_60 own idx 2 := ⟨w_424, w_2, ⟨by decide +kernel, by decide +kernel⟩, by decide +kernel⟩
theorem mw_61 {own : String} {idx : Nat} : metW ip_61 own idx 2 := ⟨w_440, w_2, ⟨by decide +kernel, by decide +kernel⟩, by decide +kernel⟩
theorem mw_62 {own : String} {idx : Nat} : metW ip_62 own idx 2 := ⟨w_445, w_2, ⟨by decide +kernel, by decide +kernel⟩, by decide +kernel⟩
theorem mw_63 {own : String} {idx : Nat} : metW ip_63 own idx 0 := ⟨w_463, w_2, ⟨by decide +kernel, by decide +kernel⟩, by decide +kernel⟩
theorem mw_64 {own : String} {idx : Nat} : metW ip_64 own idx 1 := ⟨w_467, w_2, ⟨by decide +kernel, by decide +kernel⟩, by decide +kernel⟩
theorem mw_65 {own : String} {idx : Nat} : metW ip_65 own idx 3 := ⟨w_471, w_2, ⟨by decide +kernel, by decide +kernel⟩, by decide +kernel⟩
theorem mw_66 {own : String} {idx : Nat} : metW ip_66 own idx 0 := ⟨w_479, w_2, ⟨by decide +kernel, by decide +kernel⟩, by decide +kernel⟩
theorem mw_67 {own : String} {idx : Nat} : metW ip_67 own idx 1 := ⟨w_1020, w_2, ⟨by decide +kernel, by decide +kernel⟩, by decide +kernel⟩
theorem mw_68 {own : String} {idx : Nat} : metW ip_68 own idx 1 := ⟨w_1051, w_2, ⟨by decide +kernel, by decide +kernel⟩, by decide +kernel⟩
theorem mw_69 {own : String} {idx : Nat} : metW ip_69 own idx 2 := ⟨w_1100, w_2, ⟨by decide +kernel, by decide +kernel⟩, by decide +kernel⟩
theorem mw_70 {own : String} {idx : Nat} : metW ip_70 own idx 1 := ⟨w_1104, w_2, ⟨by decide +kernel, by decide +kernel⟩, by decide +kernel⟩
theorem mw_71 {own : String} {idx : Nat} : metW ip_71 own idx 1 := ⟨w_1108, w_2, ⟨by decide +kernel, by decide +kernel⟩, by decide +kernel⟩
theorem mw_72 {own : String} {idx : Nat} : metW ip_72 own idx 0 := ⟨w_1143, w_2, ⟨by decide +kernel, by decide +kernel⟩, by decide +kernel⟩
theorem mw_73 {own : String} {idx : Nat} : metW ip_73 own idx 1 := ⟨w_1168, w_2, ⟨by decide +kernel, by decide +kernel⟩, by decide +kernel⟩
theorem mw_74 {own : String} {idx : Nat} : metW ip_74 own idx 1 := ⟨w_1287, w_2, ⟨by decide +kernel, by decide +kernel⟩, by decide +kernel⟩
theorem mw_75 {own : String} {idx : Nat} : metW ip_75 own idx 1 := ⟨w_1305, w_2, ⟨by decide +kernel, by decide +kernel⟩, by decide +kernel⟩
theorem mw_76 {own : String} {idx : Nat} : metW ip_76 own idx 1 := ⟨w_1318, w_2, ⟨by decide +kernel, by decide +kernel⟩, by decide +kernel⟩
theorem mw_77 {own : String} {idx : Nat} : metW ip_77 own idx 1 := ⟨w_1329, w_2, ⟨by decide +kernel, by decide +kernel⟩, by decide +kernel⟩
theorem mw_78 {own : String} {idx : Nat} : metW ip_78 own idx 1 := ⟨w_1363, w_2, ⟨by decide +kernel, by decide +kernel⟩, by decide +kernel⟩
theorem mw_79 {own : String} {idx : Nat} : metW ip_79 own idx 1 := ⟨w_1368, w_2, ⟨by decide +kernel, by decide +kernel⟩, by decide +kernel⟩
theorem mw_80 {own : String} {idx : Nat} : metW ip_80 own idx 1 := ⟨w_1496, w_2, ⟨by decide +kernel, by decide +kernel⟩, by decide +kernel⟩
theorem mw_81 {own : String} {idx : Nat} : metW ip_81 own idx 0 := ⟨w_225, w_8, ⟨by decide +kernel, by decide +kernel⟩, by decide +kernel⟩
theorem mw_82 {own : String} {idx : Nat} : metW ip_82 own idx 2 := ⟨w_493, w_8, ⟨by decide +kernel, by decide +kernel⟩, by decide +kernel⟩
theorem mw_83 {own : String} {idx : Nat} : metW ip_83 own idx 1 := ⟨w_496, w_8, ⟨by decide +kernel, by decide +kernel⟩, by decide +kernel⟩
theorem mw_84 {own : String} {idx : Nat} : metW ip_84 own idx 1 := ⟨w_500, w_8, ⟨by decide +kernel, by decide +kernel⟩, by decide +kernel⟩
theorem mw_85 {own : String} {idx : Nat} : metW ip_85 own idx 2 := ⟨w_504, w_8, ⟨by decide +kernel, by decide +kernel⟩, by decide +kernel⟩
theorem mw_86 {own : String} {idx : Nat} : metW ip_86 own idx 2 := ⟨w_844, w_8, ⟨by decide +kernel, by decide +kernel⟩, by decide +kernel⟩
theorem mw_87 {own : String} {idx : Nat} : metW ip_87 own idx 3 := ⟨w_1522, w_8, ⟨by decide +kernel, by decide +kernel⟩, by decide +kernel⟩
theorem mw_88 {own : String} {idx : Nat} : metW ip_88 own idx 1 := ⟨w_1526, w_8, ⟨by decide +kernel, by decide +kernel⟩, by decide +kernel⟩
theorem mw_89 {own : String} {idx : Nat} : metW ip_89 own idx 2 := ⟨w_1530, w_8, ⟨by decide +kernel, by decide +kernel⟩, by decide +kernel⟩
theorem mw_90 {own : String} {idx : Nat} : metW ip_90 own idx 1 := ⟨w_1541, w_8, ⟨by decide +kernel, by decide +kernel⟩, by decide +kernel⟩
theorem mw_91 {own : String} {idx : Nat} : metW ip_91 own idx 1 := ⟨w_1545, w_8, ⟨by decide +kernel, by decide +kernel⟩, by decide +kernel⟩
theorem mw_92 {own : String} {idx : Nat} : metW ip_92 own idx 2 := ⟨w_1556, w_8, ⟨by decide +kernel, by decide +kernel⟩, by decide +kernel⟩
theorem mw_93 {own : String} {idx : Nat} : metW ip_93 own idx 0 := ⟨w_330, w_12, ⟨by decide +kernel, by decide +kernel⟩, by decide +kernel⟩
theorem mw_94 {own : String} {idx : Nat} : metW ip_94 own idx 0 := ⟨w_1203, w_12, ⟨by decide +kernel, by decide +kernel⟩, by decide +kernel⟩
theorem mw_95 {own : String} {idx : Nat} : metW ip_95 own idx 1 := ⟨w_1226, w_12, ⟨by decide +kernel, by decide +kernel⟩, by decide +kernel⟩
theorem mw_96 {own : String} {idx : Nat} : metW ip_96 own idx 2 := ⟨w_1676, w_12, ⟨by decide +kernel, by decide +kernel⟩, by decide +kernel⟩
theorem mw_97 {own : String} {idx : Nat} : metW ip_97 own idx 1 := ⟨w_1680, w_12, ⟨by decide +kernel, by decide +kernel⟩, by decide +kernel⟩
theorem mw_98 {own : String} {idx : Nat} : metW ip_98 own idx 2 := ⟨w_1691, w_12, ⟨by decide +kernel, by decide +kernel⟩, by decide +kernel⟩
theorem mw_99 {own : String} {idx : Nat} : metW ip_99 own idx 0 := ⟨w_190, w_6, ⟨by decide +kernel, by decide +kernel⟩, by decide +kernel⟩
theorem mw_100 {own : String} {idx : Nat} : metW ip_100 own idx 1 := ⟨w_1172, w_6, ⟨by decide +kernel, by decide +kernel⟩, by decide +kernel⟩
theorem mw_101 {own : String} {idx : Nat} : metW ip_101 own idx 2 := ⟨w_1175, w_6, ⟨by decide +kernel, by decide +kernel⟩, by decide +kernel⟩
theorem mw_102 {own : String} {idx : Nat} : metW ip_102 own idx 2 := ⟨w_1181, w_6, ⟨by decide +kernel, by decide +kernel⟩, by decide +kernel⟩
theorem mw_103 {own : String} {idx : Nat} : metW ip_103 own idx 0 := ⟨w_317, w_11, ⟨by decide +kernel, by decide +kernel⟩, by decide +kernel⟩
theorem mw_104 {own : String} {idx : Nat} : metW ip_104 own idx 0 := ⟨w_1578, w_11, ⟨by decide +kernel, by decide +kernel⟩, by decide +kernel⟩
theorem mw_105 {own : String} {idx : Nat} : metW ip_105 own idx 1 := ⟨w_1591, w_11, ⟨by decide +kernel, by decide +kernel⟩, by decide +kernel⟩
theorem mw_106 {own : String} {idx : Nat} : metW ip_106 own idx 0 := ⟨w_265, w_9, ⟨by decide +kernel, by decide +kernel⟩, by decide +kernel⟩
theorem mw_107 {own : String} {idx : Nat} : metW ip_107 own idx 3 := ⟨w_1427, w_9, ⟨by decide +kernel, by decide +kernel⟩, by decide +kernel⟩
theorem mw_108 {own : String} {idx : Nat} : metW ip_108 own idx 1 := ⟨w_1438, w_9, ⟨by decide +kernel, by decide +kernel⟩, by decide +kernel⟩
theorem mw_109 {own : String} {idx : Nat} : metW ip_109 own idx 0 := ⟨w_1442, w_9, ⟨by decide +kernel, by decide +kernel⟩, by decide +kernel⟩
theorem mw_110 {own : String} {idx : Nat} : metW ip_110 own idx 1 := ⟨w_1446, w_9, ⟨by decide +kernel, by decide +kernel⟩, by decide +kernel⟩
theorem mw_111 {own : String} {idx : Nat} : metW ip_111 own idx 1 := ⟨w_1586, w_9, ⟨by decide +kernel, by decide +kernel⟩, by decide +kernel⟩
theorem mw_112 {own : String} {idx : Nat} : metW ip_112 own idx 0 := ⟨w_38, w_1, ⟨by decide +kernel, by decide +kernel⟩, by decide +kernel⟩
theorem mw_113 {own : String} {idx : Nat} : metW ip_113 own idx 5 := ⟨w_408, w_1, ⟨by decide +kernel, by decide +kernel⟩, by decide +kernel⟩
theorem mw_114 {own : String} {idx : Nat} : metW ip_114 own idx 1 := ⟨w_412, w_1, ⟨by decide +kernel, by decide +kernel⟩, by decide +kernel⟩
theorem mw_115 {own : String} {idx : Nat} : metW ip_115 own idx 1 := ⟨w_416, w_1, ⟨by decide +kernel, by decide +kernel⟩, by decide +kernel⟩
theorem mw_116 {own : String} {idx : Nat} : metW ip_116 own idx 2 := ⟨w_420, w_1, ⟨by decide +kernel, by decide +kernel⟩, by decide +kernel⟩
theorem mw_117 {own : String} {idx : Nat} : metW ip_117 own idx 0 := ⟨w_455, w_1, ⟨by decide +kernel, by decide +kernel⟩, by decide +kernel⟩
theorem mw_118 {own : String} {idx : Nat} : metW ip_118 own idx 0 := ⟨w_459, w_1, ⟨by decide +kernel, by decide +kernel⟩, by decide +kernel⟩
theorem mw_119 {own : String} {idx : Nat} : metW ip_119 own idx 0 := ⟨w_475, w_1, ⟨by decide +kernel, by decide +kernel⟩, by decide +kernel⟩
theorem mw_120 {own : String} {idx : Nat} : metW ip_120 own idx 0 := ⟨w_483, w_1, ⟨by decide +kernel, by decide +kernel⟩, by decide +kernel⟩
theorem mw_121 {own : String} {idx : Nat} : metW ip_121 own idx 1 := ⟨w_487, w_1, ⟨by decide +kernel, by decide +kernel⟩, by decide +kernel⟩
theorem mw_122 {own : String} {idx : Nat} : metW ip_122 own idx 1 := ⟨w_856, w_1, ⟨by decide +kernel, by decide +kernel⟩, by decide +kernel⟩
theorem mw_123 {own : String} {idx : Nat} : metW ip_123 own idx 1 := ⟨w_864, w_1, ⟨by decide +kernel, by decide +kernel⟩, by decide +kernel⟩
theorem mw_124 {own : String} {idx : Nat} : metW ip_124 own idx 3 := ⟨w_867, w_1, ⟨by decide +kernel, by decide +kernel⟩, by decide +kernel⟩
theorem mw_125 {own : String} {idx : Nat} : metW ip_125 own idx 2 := ⟨w_1029, w_1, ⟨by decide +kernel, by decide +kernel⟩, by decide +kernel⟩
theorem mw_126 {own : String} {idx : Nat} : metW ip_126 own idx 2 := ⟨w_1058, w_1, ⟨by decide +kernel, by decide +kernel⟩, by decide +kernel⟩
theorem mw_127 {own : String} {idx : Nat} : metW ip_127 own idx 1 := ⟨w_1062, w_1, ⟨by decide +kernel, by decide +kernel⟩, by decide +kernel⟩
theorem mw_128 {own : String} {idx : Nat} : metW ip_128 own idx 2 := ⟨w_1090, w_1, ⟨by decide +kernel, by decide +kernel⟩, by decide +kernel⟩
theorem mw_129 {own : String} {idx : Nat} : metW ip_129 own idx 1 := ⟨w_1094, w_1, ⟨by decide +kernel, by decide +kernel⟩, by decide +kernel⟩
theorem mw_130 {own : String} {idx : Nat} : metW ip_130 own idx 2 := ⟨w_1115, w_1, ⟨by decide +kernel, by decide +kernel⟩, by decide +kernel⟩
theorem mw_131 {own : String} {idx : Nat} : metW ip_131 own idx 1 := ⟨w_1124, w_1, ⟨by decide +kernel, by decide +kernel⟩, by decide +kernel⟩
theorem mw_132 {own : String} {idx : Nat} : metW ip_132 own idx 1 := ⟨w_1132, w_1, ⟨by decide +kernel, by decide +kernel⟩, by decide +kernel⟩
theorem mw_133 {own : String} {idx : Nat} : metW ip_133 own idx 1 := ⟨w_1139, w_1, ⟨by decide +kernel, by decide +kernel⟩, by decide +kernel⟩
theorem mw_134 {own : String} {idx : Nat} : metW ip_134 own idx 2 := ⟨w_1156, w_1, ⟨by decide +kernel, by decide +kernel⟩, by decide +kernel⟩
theorem mw_135 {own : String} {idx : Nat} : metW ip_135 own idx 1 := ⟨w_1164, w_1, ⟨by decide +kernel, by decide +kernel⟩, by decide +kernel⟩
theorem mw_136 {own : String} {idx : Nat} : metW ip_136 own idx 2 := ⟨w_1190, w_1, ⟨by decide +kernel, by decide +kernel⟩, by decide +kernel⟩
theorem mw_137 {own : String} {idx : Nat} : metW ip_137 own idx 1 := ⟨w_1194, w_1, ⟨by decide +kernel, by decide +kernel⟩, by decide +kernel⟩
theorem mw_138 {own : String} {idx : Nat} : metW ip_138 own idx 1 := ⟨w_1198, w_1, ⟨by decide +kernel, by decide +kernel⟩, by decide +kernel⟩
theorem mw_139 {own : String} {idx : Nat} : metW ip_139 own idx 2 := ⟨w_1222, w_1, ⟨by decide +kernel, by decide +kernel⟩, by decide +kernel⟩
theorem mw_140 {own : String} {idx : Nat} : metW ip_140 own idx 2 := ⟨w_1229, w_1, ⟨by decide +kernel, by decide +kernel⟩, by decide +kernel⟩
theorem mw_141 {own : String} {idx : Nat} : metW ip_141 own idx 1 := ⟨w_1243, w_1, ⟨by decide +kernel, by decide +kernel⟩, by decide +kernel⟩
theorem mw_142 {own : String} {idx : Nat} : metW ip_142 own idx 2 := ⟨w_1250, w_1, ⟨by decide +kernel, by decide +kernel⟩, by decide +kernel⟩
theorem mw_143 {own : String} {idx : Nat} : metW ip_143 own idx 3 := ⟨w_1268, w_1, ⟨by decide +kernel, by decide +kernel⟩, by decide +kernel⟩
theorem mw_144 {own : String} {idx : Nat} : metW ip_144 own idx 2 := ⟨w_1276, w_1, ⟨by decide +kernel, by decide +kernel⟩, by decide +kernel⟩
theorem mw_145 {own : String} {idx : Nat} : metW ip_145 own idx 2 := ⟨w_1283, w_1, ⟨by decide +kernel, by decide +kernel⟩, by decide +kernel⟩
theorem mw_146 {own : String} {idx : Nat} : metW ip_146 own idx 2 := ⟨w_1294, w_1, ⟨by decide +kernel, by decide +kernel⟩, by decide +kernel⟩
theorem mw_147 {own : String} {idx : Nat} : metW ip_147 own idx 2 := ⟨w_1301, w_1, ⟨by decide +kernel, by decide +kernel⟩, by decide +kernel⟩
theorem mw_148 {own : String} {idx : Nat} : metW ip_148 own idx 2 := ⟨w_1314, w_1, ⟨by decide +kernel, by decide +kernel⟩, by decide +kernel⟩
theorem mw_149 {own : String} {idx : Nat} : metW ip_149 own idx 1 := ⟨w_1325, w_1, ⟨by decide +kernel, by decide +kernel⟩, by decide +kernel⟩
theorem mw_150 {own : String} {idx : Nat} : metW ip_150 own idx 2 := ⟨w_1336, w_1, ⟨by decide +kernel, by decide +kernel⟩, by decide +kernel⟩
theorem mw_151 {own : String} {idx : Nat} : metW ip_151 own idx 2 := ⟨w_1350, w_1, ⟨by decide +kernel, by decide +kernel⟩, by decide +kernel⟩
theorem mw_152 {own : String} {idx : Nat} : metW ip_152 own idx 2 := ⟨w_1358, w_1, ⟨by decide +kernel, by decide +kernel⟩, by decide +kernel⟩
theorem mw_153 {own : String} {idx : Nat} : metW ip_153 own idx 2 := ⟨w_1375, w_1, ⟨by decide +kernel, by decide +kernel⟩, by decide +kernel⟩
theorem mw_154 {own : String} {idx : Nat} : metW ip_154 own idx 2 := ⟨w_1382, w_1, ⟨by decide +kernel, by decide +kernel⟩, by decide +kernel⟩
theorem mw_155 {own : String} {idx : Nat} : metW ip_155 own idx 2 := ⟨w_1398, w_1, ⟨by decide +kernel, by decide +kernel⟩, by decide +kernel⟩
theorem mw_156 {own : String} {idx : Nat} : metW ip_156 own idx 2 := ⟨w_1405, w_1, ⟨by decide +kernel, by decide +kernel⟩, by decide +kernel⟩
theorem mw_157 {own : String} {idx : Nat} : metW ip_157 own idx 3 := ⟨w_1419, w_1, ⟨by decide +kernel, by decide +kernel⟩, by decide +kernel⟩
theorem mw_158 {own : String} {idx : Nat} : metW ip_158 own idx 2 := ⟨w_1423, w_1, ⟨by decide +kernel, by decide +kernel⟩, by decide +kernel⟩
theorem mw_159 {own : String} {idx : Nat} : metW ip_159 own idx 2 := ⟨w_1454, w_1, ⟨by decide +kernel, by decide +kernel⟩, by decide +kernel⟩
theorem mw_160 {own : String} {idx : Nat} : metW ip_160 own idx 1 := ⟨w_1472, w_1, ⟨by decide +kernel, by decide +kernel⟩, by decide +kernel⟩
theorem mw_161 {own : String} {idx : Nat} : metW ip_161 own idx 2 := ⟨w_1492, w_1, ⟨by decide +kernel, by decide +kernel⟩, by decide +kernel⟩
theorem mw_162 {own : String} {idx : Nat} : metW ip_162 own idx 1 := ⟨w_1503, w_1, ⟨by decide +kernel, by decide +kernel⟩, by decide +kernel⟩
theorem mw_163 {own : String} {idx : Nat} : metW ip_163 own idx 1 := ⟨w_1510, w_1, ⟨by decide +kernel, by decide +kernel⟩, by decide +kernel⟩
theorem mw_164 {own : String} {idx : Nat} : metW ip_164 own idx 3 := ⟨w_1518, w_1, ⟨by decide +kernel, by decide +kernel⟩, by decide +kernel⟩
theorem mw_165 {own : String} {idx : Nat} : metW ip_165 own idx 2 := ⟨w_1537, w_1, ⟨by decide +kernel, by decide +kernel⟩, by decide +kernel⟩
theorem mw_166 {own : String} {idx : Nat} : metW ip_166 own idx 2 := ⟨w_1552, w_1, ⟨by decide +kernel, by decide +kernel⟩, by decide +kernel⟩
theorem mw_167 {own : String} {idx : Nat} : metW ip_167 own idx 3 := ⟨w_1563, w_1, ⟨by decide +kernel, by decide +kernel⟩, by decide +kernel⟩
theorem mw_168 {own : String} {idx : Nat} : metW ip_168 own idx 1 := ⟨w_1567, w_1, ⟨by decide +kernel, by decide +kernel⟩, by decide +kernel⟩
theorem mw_169 {own : String} {idx : Nat} : metW ip_169 own idx 2 := ⟨w_1574, w_1, ⟨by decide +kernel, by decide +kernel⟩, by decide +kernel⟩
theorem mw_170 {own : String} {idx : Nat} : metW ip_170 own idx 2 := ⟨w_1600, w_1, ⟨by decide +kernel, by decide +kernel⟩, by decide +kernel⟩
theorem mw_171 {own : String} {idx : Nat} : metW ip_171 own idx 1 := ⟨w_1604, w_1, ⟨by decide +kernel, by decide +kernel⟩, by decide +kernel⟩
theorem mw_172 {own : String} {idx : Nat} : metW ip_172 own idx 1 := ⟨w_1615, w_1, ⟨by decide +kernel, by decide +kernel⟩, by decide +kernel⟩
theorem mw_173 {own : String} {idx : Nat} : metW ip_173 own idx 1 := ⟨w_1632, w_1, ⟨by decide +kernel, by decide +kernel⟩, by decide +kernel⟩
theorem mw_174 {own : String} {idx : Nat} : metW ip_174 own idx 1 := ⟨w_1639, w_1, ⟨by decide +kernel, by decide +kernel⟩, by decide +kernel⟩
theorem mw_175 {own : String} {idx : Nat} : metW ip_175 own idx 1 := ⟨w_1651, w_1, ⟨by decide +kernel, by decide +kernel⟩, by decide +kernel⟩
theorem mw_176 {own : String} {idx : Nat} : metW ip_176 own idx 1 := ⟨w_1658, w_1, ⟨by decide +kernel, by decide +kernel⟩, by decide +kernel⟩
theorem mw_177 {own : String} {idx : Nat} : metW ip_177 own idx 1 := ⟨w_1665, w_1, ⟨by decide +kernel, by decide +kernel⟩, by decide +kernel⟩
theorem mw_178 {own : String} {idx : Nat} : metW ip_178 own idx 1 := ⟨w_1672, w_1, ⟨by decide +kernel, by decide +kernel⟩, by decide +kernel⟩
theorem mw_179 {own : String} {idx : Nat} : metW ip_179 own idx 3 := ⟨w_1687, w_1, ⟨by decide +kernel, by decide +kernel⟩, by decide +kernel⟩
theorem mw_180 {own : String} {idx : Nat} : metW ip_180 own idx 3 := ⟨w_1700, w_1, ⟨by decide +kernel, by decide +kernel⟩, by decide +kernel⟩
theorem mw_181 {own : String} {idx : Nat} : metW ip_181 own idx 1 := ⟨w_1720, w_1, ⟨by decide +kernel, by decide +kernel⟩, by decide +kernel⟩
theorem mw_182 {own : String} {idx : Nat} : metW ip_182 own idx 1 := ⟨w_1723, w_1, ⟨by decide +kernel, by decide +kernel⟩, by decide +kernel⟩
theorem mw_183 {own : String} {idx : Nat} : metW ip_183 own idx 1 := ⟨w_1731, w_1, ⟨by decide +kernel, by decide +kernel⟩, by decide +kernel⟩
theorem mw_184 {own : String} {idx : Nat} : metW ip_184 own idx 0 := ⟨w_1737, w_13, ⟨by decide +kernel, by decide +kernel⟩, by decide +kernel⟩
theorem mw_185 {own : String} {idx : Nat} : metW ip_185 own idx 0 := ⟨w_1912, w_13, ⟨by decide +kernel, by decide +kernel⟩, by decide +kernel⟩
theorem mw_186 {own : String} {idx : Nat} : metW ip_186 own idx 5 := ⟨w_1916, w_13, ⟨by decide +kernel, by decide +kernel⟩, by decide +kernel⟩
theorem mw_187 {own : String} {idx : Nat} : metW ip_187 own idx 1 := ⟨w_1920, w_13, ⟨by decide +kernel, by decide +kernel⟩, by decide +kernel⟩
theorem mw_188 {own : String} {idx : Nat} : metW ip_188 own idx 3 := ⟨w_1923, w_13, ⟨by decide +kernel, by decide +kernel⟩, by decide +kernel⟩
theorem mw_189 {own : String} {idx : Nat} : metW ip_189 own idx 1 := ⟨w_1927, w_13, ⟨by decide +kernel, by decide +kernel⟩, by decide +kernel⟩
theorem mw_190 {own : String} {idx : Nat} : metW ip_190 own idx 0 := ⟨w_1931, w_13, ⟨by decide +kernel, by decide +kernel⟩, by decide +kernel⟩
theorem mw_191 {own : String} {idx : Nat} : metW ip_191 own idx 1 := ⟨w_1934, w_13, ⟨by decide +kernel, by decide +kernel⟩, by decide +kernel⟩
theorem mw_192 {own : String} {idx : Nat} : metW ip_192 own idx 1 := ⟨w_1938, w_13, ⟨by decide +kernel, by decide +kernel⟩, by decide +kernel⟩
theorem mw_193 {own : String} {idx : Nat} : metW ip_193 own idx 1 := ⟨w_1941, w_13, ⟨by decide +kernel, by decide +kernel⟩, by decide +kernel⟩
theorem mw_194 {own : String} {idx : Nat} : metW ip_194 own idx 1 := ⟨w_1946, w_13, ⟨by decide +kernel, by decide +kernel⟩, by decide +kernel⟩
theorem mw_195 {own : String} {idx : Nat} : metW ip_195 own idx 1 := ⟨w_1950, w_13, ⟨by decide +kernel, by decide +kernel⟩, by decide +kernel⟩
theorem mw_196 {own : String} {idx : Nat} : metW ip_196 own idx 1 := ⟨w_1956, w_13, ⟨by decide +kernel, by decide +kernel⟩, by decide +kernel⟩
theorem mw_197 {own : String} {idx : Nat} : metW ip_197 own idx 2 := ⟨w_1960, w_13, ⟨by decide +kernel, by decide +kernel⟩, by decide +kernel⟩
theorem mw_198 {own : String} {idx : Nat} : metW ip_198 own idx 0 := ⟨w_1964, w_13, ⟨by decide +kernel, by decide +kernel⟩, by decide +kernel⟩
theorem mw_199 {own : String} {idx : Nat} : metW ip_199 own idx 0 := ⟨w_1968, w_13, ⟨by decide +kernel, by decide +kernel⟩, by decide +kernel⟩
theorem mw_200 {own : String} {idx : Nat} : metW ip_200 own idx 0 := ⟨w_1973, w_13, ⟨by decide +kernel, by decide +kernel⟩, by decide +kernel⟩
theorem mw_201 {own : String} {idx : Nat} : metW ip_201 own idx 0 := ⟨w_1977, w_13, ⟨by decide +kernel, by decide +kernel⟩, by decide +kernel⟩
theorem mw_202 {own : String} {idx : Nat} : metW ip_202 own idx 3 := ⟨w_1980, w_13, ⟨by decide +kernel, by decide +kernel⟩, by decide +kernel⟩
theorem mw_203 {own : String} {idx : Nat} : metW ip_203 own idx 0 := ⟨w_1985, w_13, ⟨by decide +kernel, by decide +kernel⟩, by decide +kernel⟩
theorem mw_204 {own : String} {idx : Nat} : metW ip_204 own idx 1 := ⟨w_1990, w_13, ⟨by decide +kernel, by decide +kernel⟩, by decide +kernel⟩
theorem mw_205 {own : String} {idx : Nat} : metW ip_205 own idx 0 := ⟨w_1996, w_13, ⟨by decide +kernel, by decide +kernel⟩, by decide +kernel⟩
theorem mw_206 {own : String} {idx : Nat} : metW ip_206 own idx 2 := ⟨w_2000, w_13, ⟨by decide +kernel, by decide +kernel⟩, by decide +kernel⟩
theorem mw_207 {own : String} {idx : Nat} : metW ip_207 own idx 1 := ⟨w_2004, w_13, ⟨by decide +kernel, by decide +kernel⟩, by decide +kernel⟩
theorem mw_208 {own : String} {idx : Nat} : metW ip_208 own idx 2 := ⟨w_2008, w_13, ⟨by decide +kernel, by decide +kernel⟩, by decide +kernel⟩
theorem mw_209 {own : String} {idx : Nat} : metW ip_209 own idx 1 := ⟨w_2013, w_13, ⟨by decide +kernel, by decide +kernel⟩, by decide +kernel⟩
theorem mw_210 {own : String} {idx : Nat} : metW ip_210 own idx 0 := ⟨w_2017, w_13, ⟨by decide +kernel, by decide +kernel⟩, by decide +kernel⟩
theorem mw_211 {own : String} {idx : Nat} : metW ip_211 own idx 1 := ⟨w_2021, w_13, ⟨by decide +kernel, by decide +kernel⟩, by decide +kernel⟩
theorem mw_212 {own : String} {idx : Nat} : metW ip_212 own idx 2 := ⟨w_2025, w_13, ⟨by decide +kernel, by decide +kernel⟩, by decide +kernel⟩
theorem mw_213 {own : String} {idx : Nat} : metW ip_213 own idx 1 := ⟨w_2029, w_13, ⟨by decide +kernel, by decide +kernel⟩, by decide +kernel⟩
theorem mw_214 {own : String} {idx : Nat} : metW ip_214 own idx 0 := ⟨w_2033, w_13, ⟨by decide +kernel, by decide +kernel⟩, by decide +kernel⟩
theorem mw_215 {own : String} {idx : Nat} : metW ip_215 own idx 2 := ⟨w_2037, w_13, ⟨by decide +kernel, by decide +kernel⟩, by decide +kernel⟩
theorem mw_216 {own : String} {idx : Nat} : metW ip_216 own idx 1 := ⟨w_2041, w_13, ⟨by decide +kernel, by decide +kernel⟩, by decide +kernel⟩
theorem mw_217 {own : String} {idx : Nat} : metW ip_217 own idx 1 := ⟨w_2045, w_13, ⟨by decide +kernel, by decide +kernel⟩, by decide +kernel⟩
theorem mw_218 {own : String} {idx : Nat} : metW ip_218 own idx 2 := ⟨w_2049, w_13, ⟨by decide +kernel, by decide +kernel⟩, by decide +kernel⟩
theorem mw_219 {own : String} {idx : Nat} : metW ip_219 own idx 1 := ⟨w_2053, w_13, ⟨by decide +kernel, by decide +kernel⟩, by decide +kernel⟩
theorem mw_220 {own : String} {idx : Nat} : metW ip_220 own idx 0 := ⟨w_2057, w_13, ⟨by decide +kernel, by decide +kernel⟩, by decide +kernel⟩
theorem mw_221 {own : String} {idx : Nat} : metW ip_221 own idx 1 := ⟨w_2061, w_13, ⟨by decide +kernel, by decide +kernel⟩, by decide +kernel⟩
theorem mw_222 {own : String} {idx : Nat} : metW ip_222 own idx 1 := ⟨w_2065, w_13, ⟨by decide +kernel, by decide +kernel⟩, by decide +kernel⟩
theorem mw_223 {own : String} {idx : Nat} : metW ip_223 own idx 2 := ⟨w_2069, w_13, ⟨by decide +kernel, by decide +kernel⟩, by decide +kernel⟩
theorem mw_224 {own : String} {idx : Nat} : metW ip_224 own idx 1 := ⟨w_2074, w_13, ⟨by decide +kernel, by decide +kernel⟩, by decide +kernel⟩
theorem mw_225 {own : String} {idx : Nat} : metW ip_225 own idx 1 := ⟨w_2080, w_13, ⟨by decide +kernel, by decide +kernel⟩, by decide +kernel⟩
theorem mw_226 {own : String} {idx : Nat} : metW ip_226 own idx 2 := ⟨w_2084, w_13, ⟨by decide +kernel, by decide +kernel⟩, by decide +kernel⟩
theorem mw_227 {own : String} {idx : Nat} : metW ip_227 own idx 2 := ⟨w_2088, w_13, ⟨by decide +kernel, by decide +kernel⟩, by decide +kernel⟩
theorem mw_228 {own : String} {idx : Nat} : metW ip_228 own idx 1 := ⟨w_2092, w_13, ⟨by decide +kernel, by decide +kernel⟩, by decide +kernel⟩
theorem mw_229 {own : String} {idx : Nat} : metW ip_229 own idx 2 := ⟨w_2096, w_13, ⟨by decide +kernel, by decide +kernel⟩, by decide +kernel⟩
theorem mw_230 {own : String} {idx : Nat} : metW ip_230 own idx 2 := ⟨w_2100, w_13, ⟨by decide +kernel, by decide +kernel⟩, by decide +kernel⟩
theorem mw_231 {own : String} {idx : Nat} : metW ip_231 own idx 2 := ⟨w_2104, w_13, ⟨by decide +kernel, by decide +kernel⟩, by decide +kernel⟩
theorem mw_232 {own : String} {idx : Nat} : metW ip_232 own idx 0 := ⟨w_2108, w_13, ⟨by decide +kernel, by decide +kernel⟩, by decide +kernel⟩
theorem mw_233 {own : String} {idx : Nat} : metW ip_233 own idx 1 := ⟨w_2113, w_13, ⟨by decide +kernel, by decide +kernel⟩, by decide +kernel⟩
theorem mw_234 {own : String} {idx : Nat} : metW ip_234 own idx 2 := ⟨w_2117, w_13, ⟨by decide +kernel, by decide +kernel⟩, by decide +kernel⟩
theorem mw_235 {own : String} {idx : Nat} : metW ip_235 own idx 1 := ⟨w_2121, w_13, ⟨by decide +kernel, by decide +kernel⟩, by decide +kernel⟩
theorem mw_236 {own : String} {idx : Nat} : metW ip_236 own idx 1 := ⟨w_2124, w_13, ⟨by decide +kernel, by decide +kernel⟩, by decide +kernel⟩
theorem mw_237 {own : String} {idx : Nat} : metW ip_237 own idx 1 := ⟨w_2128, w_13, ⟨by decide +kernel, by decide +kernel⟩, by decide +kernel⟩
theorem mw_238 {own : String} {idx : Nat} : metW ip_238 own idx 1 := ⟨w_2132, w_13, ⟨by decide +kernel, by decide +kernel⟩, by decide +kernel⟩
theorem mw_239 {own : String} {idx : Nat} : metW ip_239 own idx 0 := ⟨w_2137, w_13, ⟨by decide +kernel, by decide +kernel⟩, by decide +kernel⟩
theorem mw_240 {own : String} {idx : Nat} : metW ip_240 own idx 1 := ⟨w_2140, w_13, ⟨by decide +kernel, by decide +kernel⟩, by decide +kernel⟩
theorem mw_241 {own : String} {idx : Nat} : metW ip_241 own idx 1 := ⟨w_2144, w_13, ⟨by decide +kernel, by decide +kernel⟩, by decide +kernel⟩
theorem mw_242 {own : String} {idx : Nat} : metW ip_242 own idx 2 := ⟨w_2148, w_13, ⟨by decide +kernel, by decide +kernel⟩, by decide +kernel⟩
theorem mw_243 {own : String} {idx : Nat} : metW ip_243 own idx 1 := ⟨w_2152, w_13, ⟨by decide +kernel, by decide +kernel⟩, by decide +kernel⟩
theorem mw_244 {own : String} {idx : Nat} : metW ip_244 own idx 1 := ⟨w_2157, w_13, ⟨by decide +kernel, by decide +kernel⟩, by decide +kernel⟩
theorem mw_245 {own : String} {idx : Nat} : metW ip_245 own idx 3 := ⟨w_2161, w_13, ⟨by decide +kernel, by decide +kernel⟩, by decide +kernel⟩
theorem mw_246 {own : String} {idx : Nat} : metW ip_246 own idx 2 := ⟨w_2165, w_13, ⟨by decide +kernel, by decide +kernel⟩, by decide +kernel⟩
theorem mw_247 {own : String} {idx : Nat} : metW ip_247 own idx 2 := ⟨w_2169, w_13, ⟨by decide +kernel, by decide +kernel⟩, by decide +kernel⟩
theorem mw_248 {own : String} {idx : Nat} : metW ip_248 own idx 2 := ⟨w_2173, w_13, ⟨by decide +kernel, by decide +kernel⟩, by decide +kernel⟩
theorem mw_249 {own : String} {idx : Nat} : metW ip_249 own idx 1 := ⟨w_2177, w_13, ⟨by decide +kernel, by decide +kernel⟩, by decide +kernel⟩
theorem mw_250 {own : String} {idx : Nat} : metW ip_250 own idx 2 := ⟨w_2181, w_13, ⟨by decide +kernel, by decide +kernel⟩, by decide +kernel⟩
theorem mw_251 {own : String} {idx : Nat} : metW ip_251 own idx 0 := ⟨w_2185, w_13, ⟨by decide +kernel, by decide +kernel⟩, by decide +kernel⟩
theorem mw_252 {own : String} {idx : Nat} : metW ip_252 own idx 2 := ⟨w_2189, w_13, ⟨by decide +kernel, by decide +kernel⟩, by decide +kernel⟩
theorem mw_253 {own : String} {idx : Nat} : metW ip_253 own idx 1 := ⟨w_2193, w_13, ⟨by decide +kernel, by decide +kernel⟩, by decide +kernel⟩
theorem mw_254 {own : String} {idx : Nat} : metW ip_254 own idx 2 := ⟨w_2197, w_13, ⟨by decide +kernel, by decide +kernel⟩, by decide +kernel⟩
theorem mw_255 {own : String} {idx : Nat} : metW ip_255 own idx 1 := ⟨w_2201, w_13, ⟨by decide +kernel, by decide +kernel⟩, by decide +kernel⟩
theorem mw_256 {own : String} {idx : Nat} : metW ip_256 own idx 1 := ⟨w_2205, w_13, ⟨by decide +kernel, by decide +kernel⟩, by decide +kernel⟩
theorem mw_257 {own : String} {idx : Nat} : metW ip_257 own idx 1 := ⟨w_2209, w_13, ⟨by decide +kernel, by decide +kernel⟩, by decide +kernel⟩
theorem mw_258 {own : String} {idx : Nat} : metW ip_258 own idx 2 := ⟨w_2213, w_13, ⟨by decide +kernel, by decide +kernel⟩, by decide +kernel⟩
theorem mw_259 {own : String} {idx : Nat} : metW ip_259 own idx 2 := ⟨w_2217, w_13, ⟨by decide +kernel, by decide +kernel⟩, by decide +kernel⟩
theorem mw_260 {own : String} {idx : Nat} : metW ip_260 own idx 2 := ⟨w_2221, w_13, ⟨by decide +kernel, by decide +kernel⟩, by decide +kernel⟩
theorem mw_261 {own : String} {idx : Nat} : metW ip_261 own idx 2 := ⟨w_2225, w_13, ⟨by decide +kernel, by decide +kernel⟩, by decide +kernel⟩
theorem mw_262 {own : String} {idx : Nat} : metW ip_262 own idx 2 := ⟨w_2229, w_13, ⟨by decide +kernel, by decide +kernel⟩, by decide +kernel⟩
theorem mw_263 {own : String} {idx : Nat} : metW ip_263 own idx 1 := ⟨w_2233, w_13, ⟨by decide +kernel, by decide +kernel⟩, by decide +kernel⟩
theorem mw_264 {own : String} {idx : Nat} : metW ip_264 own idx 1 := ⟨w_2237, w_13, ⟨by decide +kernel, by decide +kernel⟩, by decide +kernel⟩
theorem mw_265 {own : String} {idx : Nat} : metW ip_265 own idx 0 := ⟨w_2241, w_13, ⟨by decide +kernel, by decide +kernel⟩, by decide +kernel⟩
theorem mw_266 {own : String} {idx : Nat} : metW ip_266 own idx 1 := ⟨w_2245, w_13, ⟨by decide +kernel, by decide +kernel⟩, by decide +kernel⟩
theorem mw_267 {own : String} {idx : Nat} : metW ip_267 own idx 0 := ⟨w_2249, w_13, ⟨by decide +kernel, by decide +kernel⟩, by decide +kernel⟩
theorem mw_268 {own : String} {idx : Nat} : metW ip_268 own idx 1 := ⟨w_2253, w_13, ⟨by decide +kernel, by decide +kernel⟩, by decide +kernel⟩
theorem mw_269 {own : String} {idx : Nat} : metW ip_269 own idx 2 := ⟨w_2257, w_13, ⟨by decide +kernel, by decide +kernel⟩, by decide +kernel⟩
theorem mw_270 {own : String} {idx : Nat} : metW ip_270 own idx 1 := ⟨w_2262, w_13, ⟨by decide +kernel, by decide +kernel⟩, by decide +kernel⟩
theorem mw_271 {own : String} {idx : Nat} : metW ip_271 own idx 1 := ⟨w_2266, w_13, ⟨by decide +kernel, by decide +kernel⟩, by decide +kernel⟩
theorem mw_272 {own : String} {idx : Nat} : metW ip_272 own idx 2 := ⟨w_2270, w_13, ⟨by decide +kernel, by decide +kernel⟩, by decide +kernel⟩
theorem mw_273 {own : String} {idx : Nat} : metW ip_273 own idx 2 := ⟨w_2274, w_13, ⟨by decide +kernel, by decide +kernel⟩, by decide +kernel⟩
theorem mw_274 {own : String} {idx : Nat} : metW ip_274 own idx 0 := ⟨w_2279, w_13, ⟨by decide +kernel, by decide +kernel⟩, by decide +kernel⟩
theorem mw_275 {own : String} {idx : Nat} : metW ip_275 own idx 2 := ⟨w_2283, w_13, ⟨by decide +kernel, by decide +kernel⟩, by decide +kernel⟩
theorem mw_276 {own : String} {idx : Nat} : metW ip_276 own idx 1 := ⟨w_2287, w_13, ⟨by decide +kernel, by decide +kernel⟩, by decide +kernel⟩
theorem mw_277 {own : String} {idx : Nat} : metW ip_277 own idx 2 := ⟨w_2291, w_13, ⟨by decide +kernel, by decide +kernel⟩, by decide +kernel⟩
theorem mw_278 {own : String} {idx : Nat} : metW ip_278 own idx 1 := ⟨w_2295, w_13, ⟨by decide +kernel, by decide +kernel⟩, by decide +kernel⟩
theorem mw_279 {own : String} {idx : Nat} : metW ip_279 own idx 3 := ⟨w_2299, w_13, ⟨by decide +kernel, by decide +kernel⟩, by decide +kernel⟩
theorem mw_280 {own : String} {idx : Nat} : metW ip_280 own idx 3 := ⟨w_2305, w_13, ⟨by decide +kernel, by decide +kernel⟩, by decide +kernel⟩
theorem mw_281 {own : String} {idx : Nat} : metW ip_281 own idx 2 := ⟨w_2309, w_13, ⟨by decide +kernel, by decide +kernel⟩, by decide +kernel⟩
theorem mw_282 {own : String} {idx : Nat} : metW ip_282 own idx 1 := ⟨w_2315, w_13, ⟨by decide +kernel, by decide +kernel⟩, by decide +kernel⟩
theorem mw_283 {own : String} {idx : Nat} : metW ip_283 own idx 1 := ⟨w_2319, w_13, ⟨by decide +kernel, by decide +kernel⟩, by decide +kernel⟩
theorem mw_284 {own : String} {idx : Nat} : metW ip_284 own idx 1 := ⟨w_2323, w_13, ⟨by decide +kernel, by decide +kernel⟩, by decide +kernel⟩
theorem mw_285 {own : String} {idx : Nat} : metW ip_285 own idx 0 := ⟨w_2327, w_13, ⟨by decide +kernel, by decide +kernel⟩, by decide +kernel⟩
theorem mw_286 {own : String} {idx : Nat} : metW ip_286 own idx 0 := ⟨w_2332, w_13, ⟨by decide +kernel, by decide +kernel⟩, by decide +kernel⟩
theorem mw_287 {own : String} {idx : Nat} : metW ip_287 own idx 2 := ⟨w_2336, w_13, ⟨by decide +kernel, by decide +kernel⟩, by decide +kernel⟩
theorem mw_288 {own : String} {idx : Nat} : metW ip_288 own idx 2 := ⟨w_2340, w_13, ⟨by decide +kernel, by decide +kernel⟩, by decide +kernel⟩
theorem mw_289 {own : String} {idx : Nat} : metW ip_289 own idx 3 := ⟨w_2344, w_13, ⟨by decide +kernel, by decide +kernel⟩, by decide +kernel⟩
theorem mw_290 {own : String} {idx : Nat} : metW ip_290 own idx 0 := ⟨w_2348, w_13, ⟨by decide +kernel, by decide +kernel⟩, by decide +kernel⟩
theorem mw_291 {own : String} {idx : Nat} : metW ip_291 own idx 2 := ⟨w_2352, w_13, ⟨by decide +kernel, by decide +kernel⟩, by decide +kernel⟩
theorem mw_292 {own : String} {idx : Nat} : metW ip_292 own idx 2 := ⟨w_2356, w_13, ⟨by decide +kernel, by decide +kernel⟩, by decide +kernel⟩
theorem mw_293 {own : String} {idx : Nat} : metW ip_293 own idx 3 := ⟨w_2360, w_13, ⟨by decide +kernel, by decide +kernel⟩, by decide +kernel⟩
theorem mw_294 {own : String} {idx : Nat} : metW ip_294 own idx 0 := ⟨w_2364, w_13, ⟨by decide +kernel, by decide +kernel⟩, by decide +kernel⟩
theorem mw_295 {own : String} {idx : Nat} : metW ip_295 own idx 2 := ⟨w_2368, w_13, ⟨by decide +kernel, by decide +kernel⟩, by decide +kernel⟩
theorem mw_296 {own : String} {idx : Nat} : metW ip_296 own idx 3 := ⟨w_2373, w_13, ⟨by decide +kernel, by decide +kernel⟩, by decide +kernel⟩
theorem mw_297 {own : String} {idx : Nat} : metW ip_297 own idx 1 := ⟨w_2377, w_13, ⟨by decide +kernel, by decide +kernel⟩, by decide +kernel⟩
theorem mw_298 {own : String} {idx : Nat} : metW ip_298 own idx 2 := ⟨w_2382, w_13, ⟨by decide +kernel, by decide +kernel⟩, by decide +kernel⟩
theorem mw_299 {own : String} {idx : Nat} : metW ip_299 own idx 1 := ⟨w_2386, w_13, ⟨by decide +kernel, by decide +kernel⟩, by decide +kernel⟩
theorem mw_300 {own : String} {idx : Nat} : metW ip_300 own idx 1 := ⟨w_2390, w_13, ⟨by decide +kernel, by decide +kernel⟩, by decide +kernel⟩
theorem mw_301 {own : String} {idx : Nat} : metW ip_301 own idx 1 := ⟨w_2394, w_13, ⟨by decide +kernel, by decide +kernel⟩, by decide +kernel⟩
theorem mw_302 {own : String} {idx : Nat} : metW ip_302 own idx 2 := ⟨w_2398, w_13, ⟨by decide +kernel, by decide +kernel⟩, by decide +kernel⟩
theorem mw_303 {own : String} {idx : Nat} : metW ip_303 own idx 1 := ⟨w_2402, w_13, ⟨by decide +kernel, by decide +kernel⟩, by decide +kernel⟩
theorem mw_304 {own : String} {idx : Nat} : metW ip_304 own idx 1 := ⟨w_2406, w_13, ⟨by decide +kernel, by decide +kernel⟩, by decide +kernel⟩
theorem mw_305 {own : String} {idx : Nat} : metW ip_305 own idx 0 := ⟨w_2410, w_13, ⟨by decide +kernel, by decide +kernel⟩, by decide +kernel⟩
theorem mw_306 {own : String} {idx : Nat} : metW ip_306 own idx 1 := ⟨w_2414, w_13, ⟨by decide +kernel, by decide +kernel⟩, by decide +kernel⟩
theorem mw_307 {own : String} {idx : Nat} : metW ip_307 own idx 1 := ⟨w_2418, w_13, ⟨by decide +kernel, by decide +kernel⟩, by decide +kernel⟩
theorem mw_308 {own : String} {idx : Nat} : metW ip_308 own idx 1 := ⟨w_2422, w_13, ⟨by decide +kernel, by decide +kernel⟩, by decide +kernel⟩
theorem mw_309 {own : String} {idx : Nat} : metW ip_309 own idx 3 := ⟨w_2426, w_13, ⟨by decide +kernel, by decide +kernel⟩, by decide +kernel⟩
theorem mw_310 {own : String} {idx : Nat} : metW ip_310 own idx 4 := ⟨w_2431, w_13, ⟨by decide +kernel, by decide +kernel⟩, by decide +kernel⟩
theorem mw_311 {own : String} {idx : Nat} : metW ip_311 own idx 1 := ⟨w_2435, w_13, ⟨by decide +kernel, by decide +kernel⟩, by decide +kernel⟩
theorem mw_312 {own : String} {idx : Nat} : metW ip_312 own idx 1 := ⟨w_2439, w_13, ⟨by decide +kernel, by decide +kernel⟩, by decide +kernel⟩
theorem mw_313 {own : String} {idx : Nat} : metW ip_313 own idx 3 := ⟨w_2443, w_13, ⟨by decide +kernel, by decide +kernel⟩, by decide +kernel⟩
theorem mw_314 {own : String} {idx : Nat} : metW ip_314 own idx 3 := ⟨w_2447, w_13, ⟨by decide +kernel, by decide +kernel⟩, by decide +kernel⟩
theorem mw_315 {own : String} {idx : Nat} : metW ip_315 own idx 3 := ⟨w_2451, w_13, ⟨by decide +kernel, by decide +kernel⟩, by decide +kernel⟩
theorem mw_316 {own : String} {idx : Nat} : metW ip_316 own idx 1 := ⟨w_2455, w_13, ⟨by decide +kernel, by decide +kernel⟩, by decide +kernel⟩
theorem mw_317 {own : String} {idx : Nat} : metW ip_317 own idx 1 := ⟨w_2459, w_13, ⟨by decide +kernel, by decide +kernel⟩, by decide +kernel⟩
theorem mw_318 {own : String} {idx : Nat} : metW ip_318 own idx 1 := ⟨w_2463, w_13, ⟨by decide +kernel, by decide +kernel⟩, by decide +kernel⟩
theorem mw_319 {own : String} {idx : Nat} : metW ip_319 own idx 3 := ⟨w_859, w_0, ⟨by decide +kernel, by decide +kernel⟩, by decide +kernel⟩
theorem mw_320 {own : String} {idx : Nat} : metW ip_320 own idx 4 := ⟨w_1024, w_0, ⟨by decide +kernel, by decide +kernel⟩, by decide +kernel⟩
theorem mw_321 {own : String} {idx : Nat} : metW ip_321 own idx 4 := ⟨w_1054, w_0, ⟨by decide +kernel, by decide +kernel⟩, by decide +kernel⟩
theorem mw_322 {own : String} {idx : Nat} : metW ip_322 own idx 4 := ⟨w_1086, w_0, ⟨by decide +kernel, by decide +kernel⟩, by decide +kernel⟩
theorem mw_323 {own : String} {idx : Nat} : metW ip_323 own idx 4 := ⟨w_1111, w_0, ⟨by decide +kernel, by decide +kernel⟩, by decide +kernel⟩
theorem mw_324 {own : String} {idx : Nat} : metW ip_324 own idx 3 := ⟨w_1120, w_0, ⟨by decide +kernel, by decide +kernel⟩, by decide +kernel⟩
theorem mw_325 {own : String} {idx : Nat} : metW ip_325 own idx 3 := ⟨w_1128, w_0, ⟨by decide +kernel, by decide +kernel⟩, by decide +kernel⟩
theorem mw_326 {own : String} {idx : Nat} : metW ip_326 own idx 3 := ⟨w_1135, w_0, ⟨by decide +kernel, by decide +kernel⟩, by decide +kernel⟩
theorem mw_327 {own : String} {idx : Nat} : metW ip_327 own idx 4 := ⟨w_1152, w_0, ⟨by decide +kernel, by decide +kernel⟩, by decide +kernel⟩
theorem mw_328 {own : String} {idx : Nat} : metW ip_328 own idx 3 := ⟨w_1160, w_0, ⟨by decide +kernel, by decide +kernel⟩, by decide +kernel⟩
theorem mw_329 {own : String} {idx : Nat} : metW ip_329 own idx 4 := ⟨w_1185, w_0, ⟨by decide +kernel, by decide +kernel⟩, by decide +kernel⟩
theorem mw_330 {own : String} {idx : Nat} : metW ip_330 own idx 3 := ⟨w_1239, w_0, ⟨by decide +kernel, by decide +kernel⟩, by decide +kernel⟩
theorem mw_331 {own : String} {idx : Nat} : metW ip_331 own idx 4 := ⟨w_1246, w_0, ⟨by decide +kernel, by decide +kernel⟩, by decide +kernel⟩
theorem mw_332 {own : String} {idx : Nat} : metW ip_332 own idx 5 := ⟨w_1264, w_0, ⟨by decide +kernel, by decide +kernel⟩, by decide +kernel⟩
theorem mw_333 {own : String} {idx : Nat} : metW ip_333 own idx 4 := ⟨w_1272, w_0, ⟨by decide +kernel, by decide +kernel⟩, by decide +kernel⟩
theorem mw_334 {own : String} {idx : Nat} : metW ip_334 own idx 4 := ⟨w_1279, w_0, ⟨by decide +kernel, by decide +kernel⟩, by decide +kernel⟩
theorem mw_335 {own : String} {idx : Nat} : metW ip_335 own idx 4 := ⟨w_1290, w_0, ⟨by decide +kernel, by decide +kernel⟩, by decide +kernel⟩
theorem mw_336 {own : String} {idx : Nat} : metW ip_336 own idx 4 := ⟨w_1297, w_0, ⟨by decide +kernel, by decide +kernel⟩, by decide +kernel⟩
theorem mw_337 {own : String} {idx : Nat} : metW ip_337 own idx 4 := ⟨w_1310, w_0, ⟨by decide +kernel, by decide +kernel⟩, by decide +kernel⟩
theorem mw_338 {own : String} {idx : Nat} : metW ip_338 own idx 3 := ⟨w_1321, w_0, ⟨by decide +kernel, by decide +kernel⟩, by decide +kernel⟩
theorem mw_339 {own : String} {idx : Nat} : metW ip_339 own idx 4 := ⟨w_1332, w_0, ⟨by decide +kernel, by decide +kernel⟩, by decide +kernel⟩
theorem mw_340 {own : String} {idx : Nat} : metW ip_340 own idx 4 := ⟨w_1346, w_0, ⟨by decide +kernel, by decide +kernel⟩, by decide +kernel⟩
theorem mw_341 {own : String} {idx : Nat} : metW ip_341 own idx 4 := ⟨w_1354, w_0, ⟨by decide +kernel, by decide +kernel⟩, by decide +kernel⟩
theorem mw_342 {own : String} {idx : Nat} : metW ip_342 own idx 4 := ⟨w_1371, w_0, ⟨by decide +kernel, by decide +kernel⟩, by decide +kernel⟩
theorem mw_343 {own : String} {idx : Nat} : metW ip_343 own idx 4 := ⟨w_1378, w_0, ⟨by decide +kernel, by decide +kernel⟩, by decide +kernel⟩
theorem mw_344 {own : String} {idx : Nat} : metW ip_344 own idx 4 := ⟨w_1394, w_0, ⟨by decide +kernel, by decide +kernel⟩, by decide +kernel⟩
theorem mw_345 {own : String} {idx : Nat} : metW ip_345 own idx 4 := ⟨w_1401, w_0, ⟨by decide +kernel, by decide +kernel⟩, by decide +kernel⟩
theorem mw_346 {own : String} {idx : Nat} : metW ip_346 own idx 5 := ⟨w_1415, w_0, ⟨by decide +kernel, by decide +kernel⟩, by decide +kernel⟩
theorem mw_347 {own : String} {idx : Nat} : metW ip_347 own idx 4 := ⟨w_1450, w_0, ⟨by decide +kernel, by decide +kernel⟩, by decide +kernel⟩
theorem mw_348 {own : String} {idx : Nat} : metW ip_348 own idx 3 := ⟨w_1468, w_0, ⟨by decide +kernel, by decide +kernel⟩, by decide +kernel⟩
theorem mw_349 {own : String} {idx : Nat} : metW ip_349 own idx 4 := ⟨w_1488, w_0, ⟨by decide +kernel, by decide +kernel⟩, by decide +kernel⟩
theorem mw_350 {own : String} {idx : Nat} : metW ip_350 own idx 3 := ⟨w_1499, w_0, ⟨by decide +kernel, by decide +kernel⟩, by decide +kernel⟩
theorem mw_351 {own : String} {idx : Nat} : metW ip_351 own idx 3 := ⟨w_1506, w_0, ⟨by decide +kernel, by decide +kernel⟩, by decide +kernel⟩
theorem mw_352 {own : String} {idx : Nat} : metW ip_352 own idx 5 := ⟨w_1514, w_0, ⟨by decide +kernel, by decide +kernel⟩, by decide +kernel⟩
theorem mw_353 {own : String} {idx : Nat} : metW ip_353 own idx 4 := ⟨w_1533, w_0, ⟨by decide +kernel, by decide +kernel⟩, by decide +kernel⟩
theorem mw_354 {own : String} {idx : Nat} : metW ip_354 own idx 4 := ⟨w_1548, w_0, ⟨by decide +kernel, by decide +kernel⟩, by decide +kernel⟩
theorem mw_355 {own : String} {idx : Nat} : metW ip_355 own idx 5 := ⟨w_1559, w_0, ⟨by decide +kernel, by decide +kernel⟩, by decide +kernel⟩
theorem mw_356 {own : String} {idx : Nat} : metW ip_356 own idx 4 := ⟨w_1570, w_0, ⟨by decide +kernel, by decide +kernel⟩, by decide +kernel⟩
theorem mw_357 {own : String} {idx : Nat} : metW ip_357 own idx 4 := ⟨w_1596, w_0, ⟨by decide +kernel, by decide +kernel⟩, by decide +kernel⟩
theorem mw_358 {own : String} {idx : Nat} : metW ip_358 own idx 3 := ⟨w_1628, w_0, ⟨by decide +kernel, by decide +kernel⟩, by decide +kernel⟩
theorem mw_359 {own : String} {idx : Nat} : metW ip_359 own idx 3 := ⟨w_1635, w_0, ⟨by decide +kernel, by decide +kernel⟩, by decide +kernel⟩
theorem mw_360 {own : String} {idx : Nat} : metW ip_360 own idx 3 := ⟨w_1647, w_0, ⟨by decide +kernel, by decide +kernel⟩, by decide +kernel⟩
theorem mw_361 {own : String} {idx : Nat} : metW ip_361 own idx 3 := ⟨w_1654, w_0, ⟨by decide +kernel, by decide +kernel⟩, by decide +kernel⟩
theorem mw_362 {own : String} {idx : Nat} : metW ip_362 own idx 3 := ⟨w_1661, w_0, ⟨by decide +kernel, by decide +kernel⟩, by decide +kernel⟩
theorem mw_363 {own : String} {idx : Nat} : metW ip_363 own idx 3 := ⟨w_1668, w_0, ⟨by decide +kernel, by decide +kernel⟩, by decide +kernel⟩
theorem mw_364 {own : String} {idx : Nat} : metW ip_364 own idx 4 := ⟨w_1683, w_0, ⟨by decide +kernel, by decide +kernel⟩, by decide +kernel⟩
theorem mw_365 {own : String} {idx : Nat} : metW ip_365 own idx 5 := ⟨w_1695, w_0, ⟨by decide +kernel, by decide +kernel⟩, by decide +kernel⟩
theorem mw_366 {own : String} {idx : Nat} : metW ip_366 own idx 2 := ⟨w_1716, w_0, ⟨by decide +kernel, by decide +kernel⟩, by decide +kernel⟩
theorem mw_367 {own : String} {idx : Nat} : metW ip_367 own idx 2 := ⟨w_1727, w_0, ⟨by decide +kernel, by decide +kernel⟩, by decide +kernel⟩
theorem ws_14 : Cond.selects "SnowKeeps$Guides" ({ cls := "SnowKeeps$Guides", name := "stepsOut", desc := "(I)I" } : MethodName) ({ cls := "SnowKeeps$Guides", name := "stepsOut", desc := "(I)I" } : MethodName) ∈ lw_tbl := by decide +kernel
theorem ws_17 : Cond.selects "SnowKeeps$Leads" ({ cls := "SnowKeeps$Leads", name := "lead", desc := "(LSnowKeeps$Plain;I)V" } : MethodName) ({ cls := "SnowKeeps$Leads", name := "lead", desc := "(LSnowKeeps$Plain;I)V" } : MethodName) ∈ lw_tbl := by decide +kernel
theorem ws_38 : Cond.selects "SnowKeeps$Reader" ({ cls := "SnowKeeps$Reader", name := "advance", desc := "()V" } : MethodName) ({ cls := "SnowKeeps$Reader", name := "advance", desc := "()V" } : MethodName) ∈ lw_tbl := by decide +kernel
theorem ws_42 : Cond.selects "SnowKeeps$Reader" ({ cls := "SnowKeeps$Reader", name := "tellPlaces", desc := "(LSnowKeeps$Plain;)Z" } : MethodName) ({ cls := "SnowKeeps$Reader", name := "tellPlaces", desc := "(LSnowKeeps$Plain;)Z" } : MethodName) ∈ lw_tbl := by decide +kernel
theorem ws_47 : Cond.selects "SnowKeeps$Reader" ({ cls := "SnowKeeps$Reader", name := "tellLine", desc := "(LSnowKeeps$Plain;)Z" } : MethodName) ({ cls := "SnowKeeps$Reader", name := "tellLine", desc := "(LSnowKeeps$Plain;)Z" } : MethodName) ∈ lw_tbl := by decide +kernel
theorem ws_41 : Cond.selects "SnowKeeps$Reader" ({ cls := "SnowKeeps$Reader", name := "advanceDigits", desc := "()V" } : MethodName) ({ cls := "SnowKeeps$Reader", name := "advanceDigits", desc := "()V" } : MethodName) ∈ lw_tbl := by decide +kernel
theorem ws_43 : Cond.selects "SnowKeeps$Reader" ({ cls := "SnowKeeps$Reader", name := "isWord", desc := "(Ljava/lang/String;)Z" } : MethodName) ({ cls := "SnowKeeps$Reader", name := "isWord", desc := "(Ljava/lang/String;)Z" } : MethodName) ∈ lw_tbl := by decide +kernel
theorem ws_44 : Cond.selects "SnowKeeps$Reader" ({ cls := "SnowKeeps$Reader", name := "fail", desc := "(I)Z" } : MethodName) ({ cls := "SnowKeeps$Reader", name := "fail", desc := "(I)Z" } : MethodName) ∈ lw_tbl := by decide +kernel
theorem ws_45 : Cond.selects "SnowKeeps$Reader" ({ cls := "SnowKeeps$Reader", name := "isNumber", desc := "(II)Z" } : MethodName) ({ cls := "SnowKeeps$Reader", name := "isNumber", desc := "(II)Z" } : MethodName) ∈ lw_tbl := by decide +kernel
theorem ws_46 : Cond.selects "SnowKeeps$Reader" ({ cls := "SnowKeeps$Reader", name := "endLine", desc := "(LSnowKeeps$Plain;)Z" } : MethodName) ({ cls := "SnowKeeps$Reader", name := "endLine", desc := "(LSnowKeeps$Plain;)Z" } : MethodName) ∈ lw_tbl := by decide +kernel
theorem ws_48 : Cond.selects "SnowKeeps$Reader" ({ cls := "SnowKeeps$Reader", name := "tellPath", desc := "(LSnowKeeps$Plain;)Z" } : MethodName) ({ cls := "SnowKeeps$Reader", name := "tellPath", desc := "(LSnowKeeps$Plain;)Z" } : MethodName) ∈ lw_tbl := by decide +kernel
theorem ws_49 : Cond.selects "SnowKeeps$Reader" ({ cls := "SnowKeeps$Reader", name := "tellWalker", desc := "(LSnowKeeps$Plain;)Z" } : MethodName) ({ cls := "SnowKeeps$Reader", name := "tellWalker", desc := "(LSnowKeeps$Plain;)Z" } : MethodName) ∈ lw_tbl := by decide +kernel
theorem ws_51 : Cond.selects "SnowKeeps$Reader" ({ cls := "SnowKeeps$Reader", name := "tellKeep", desc := "(LSnowKeeps$Plain;)Z" } : MethodName) ({ cls := "SnowKeeps$Reader", name := "tellKeep", desc := "(LSnowKeeps$Plain;)Z" } : MethodName) ∈ lw_tbl := by decide +kernel
theorem ws_52 : Cond.selects "SnowKeeps$Reader" ({ cls := "SnowKeeps$Reader", name := "tellStorm", desc := "(LSnowKeeps$Plain;)Z" } : MethodName) ({ cls := "SnowKeeps$Reader", name := "tellStorm", desc := "(LSnowKeeps$Plain;)Z" } : MethodName) ∈ lw_tbl := by decide +kernel
theorem ws_53 : Cond.selects "SnowKeeps$Reader" ({ cls := "SnowKeeps$Reader", name := "tellWolves", desc := "(LSnowKeeps$Plain;)Z" } : MethodName) ({ cls := "SnowKeeps$Reader", name := "tellWolves", desc := "(LSnowKeeps$Plain;)Z" } : MethodName) ∈ lw_tbl := by decide +kernel
theorem ws_50 : Cond.selects "SnowKeeps$Reader" ({ cls := "SnowKeeps$Reader", name := "tellBeat", desc := "(LSnowKeeps$Plain;)Z" } : MethodName) ({ cls := "SnowKeeps$Reader", name := "tellBeat", desc := "(LSnowKeeps$Plain;)Z" } : MethodName) ∈ lw_tbl := by decide +kernel
theorem ws_57 : Cond.selects "SnowKeeps$Sign" ({ cls := "SnowKeeps$Sign", name := "fewest", desc := "(LSnowKeeps$Plain;IZ)I" } : MethodName) ({ cls := "SnowKeeps$Sign", name := "fewest", desc := "(LSnowKeeps$Plain;IZ)I" } : MethodName) ∈ lw_tbl := by decide +kernel
theorem ws_62 : Cond.selects "SnowKeeps$Snow" ({ cls := "SnowKeeps$Snow", name := "log", desc := "(II)V" } : MethodName) ({ cls := "SnowKeeps$Snow", name := "log", desc := "(II)V" } : MethodName) ∈ lw_tbl := by decide +kernel
theorem ws_65 : Cond.selects "SnowKeeps$Snow" ({ cls := "SnowKeeps$Snow", name := "logAt", desc := "([III)I" } : MethodName) ({ cls := "SnowKeeps$Snow", name := "logAt", desc := "([III)I" } : MethodName) ∈ lw_tbl := by decide +kernel
theorem ws_85 : Cond.selects "SnowKeeps$Trails" ({ cls := "SnowKeeps$Trails", name := "countComing", desc := "(I[J)V" } : MethodName) ({ cls := "SnowKeeps$Trails", name := "countComing", desc := "(I[J)V" } : MethodName) ∈ lw_tbl := by decide +kernel
theorem ws_86 : Cond.selects "SnowKeeps$Trails" ({ cls := "SnowKeeps$Trails", name := "mayGoOn", desc := "(II)Z" } : MethodName) ({ cls := "SnowKeeps$Trails", name := "mayGoOn", desc := "(II)Z" } : MethodName) ∈ lw_tbl := by decide +kernel
theorem ws_88 : Cond.selects "SnowKeeps$Trails" ({ cls := "SnowKeeps$Trails", name := "goFrom", desc := "(I)J" } : MethodName) ({ cls := "SnowKeeps$Trails", name := "goFrom", desc := "(I)J" } : MethodName) ∈ lw_tbl := by decide +kernel
theorem ws_89 : Cond.selects "SnowKeeps$Trails" ({ cls := "SnowKeeps$Trails", name := "slotTo", desc := "(II)I" } : MethodName) ({ cls := "SnowKeeps$Trails", name := "slotTo", desc := "(II)I" } : MethodName) ∈ lw_tbl := by decide +kernel
theorem ws_97 : Cond.selects "SnowKeeps$Tray" ({ cls := "SnowKeeps$Tray", name := "cut", desc := "(J)J" } : MethodName) ({ cls := "SnowKeeps$Tray", name := "cut", desc := "(J)J" } : MethodName) ∈ lw_tbl := by decide +kernel
theorem ws_110 : Cond.selects "SnowKeeps$Wander" ({ cls := "SnowKeeps$Wander", name := "goOn", desc := "(I)Z" } : MethodName) ({ cls := "SnowKeeps$Wander", name := "goOn", desc := "(I)Z" } : MethodName) ∈ lw_tbl := by decide +kernel
theorem ws_114 : Cond.selects "SnowKeeps" ({ cls := "SnowKeeps", name := "putOnTape", desc := "(I)V" } : MethodName) ({ cls := "SnowKeeps", name := "putOnTape", desc := "(I)V" } : MethodName) ∈ lw_tbl := by decide +kernel
theorem ws_121 : Cond.selects "SnowKeeps" ({ cls := "SnowKeeps", name := "takeKept", desc := "(I)Z" } : MethodName) ({ cls := "SnowKeeps", name := "takeKept", desc := "(I)Z" } : MethodName) ∈ lw_tbl := by decide +kernel
theorem ws_127 : Cond.selects "SnowKeeps" ({ cls := "SnowKeeps", name := "askPlace", desc := "(I)V" } : MethodName) ({ cls := "SnowKeeps", name := "askPlace", desc := "(I)V" } : MethodName) ∈ lw_tbl := by decide +kernel
theorem ws_129 : Cond.selects "SnowKeeps" ({ cls := "SnowKeeps", name := "askWalker", desc := "(I)V" } : MethodName) ({ cls := "SnowKeeps", name := "askWalker", desc := "(I)V" } : MethodName) ∈ lw_tbl := by decide +kernel
theorem ws_137 : Cond.selects "SnowKeeps" ({ cls := "SnowKeeps", name := "askTold", desc := "(I)LSnowKeeps$Tray;" } : MethodName) ({ cls := "SnowKeeps", name := "askTold", desc := "(I)LSnowKeeps$Tray;" } : MethodName) ∈ lw_tbl := by decide +kernel
theorem ws_138 : Cond.selects "SnowKeeps" ({ cls := "SnowKeeps", name := "askTray", desc := "(I)LSnowKeeps$Tray;" } : MethodName) ({ cls := "SnowKeeps", name := "askTray", desc := "(I)LSnowKeeps$Tray;" } : MethodName) ∈ lw_tbl := by decide +kernel
theorem ws_158 : Cond.selects "SnowKeeps" ({ cls := "SnowKeeps", name := "seekBlur", desc := "(II)V" } : MethodName) ({ cls := "SnowKeeps", name := "seekBlur", desc := "(II)V" } : MethodName) ∈ lw_tbl := by decide +kernel
theorem ws_168 : Cond.selects "SnowKeeps" ({ cls := "SnowKeeps", name := "isTheOnlyRow", desc := "(I)Z" } : MethodName) ({ cls := "SnowKeeps", name := "isTheOnlyRow", desc := "(I)Z" } : MethodName) ∈ lw_tbl := by decide +kernel
theorem ws_171 : Cond.selects "SnowKeeps" ({ cls := "SnowKeeps", name := "takeSign", desc := "(LSnowKeeps$Tray;)V" } : MethodName) ({ cls := "SnowKeeps", name := "takeSign", desc := "(LSnowKeeps$Tray;)V" } : MethodName) ∈ lw_tbl := by decide +kernel
theorem ws_172 : Cond.selects "SnowKeeps" ({ cls := "SnowKeeps", name := "writtenFrom", desc := "(I)I" } : MethodName) ({ cls := "SnowKeeps", name := "writtenFrom", desc := "(I)I" } : MethodName) ∈ lw_tbl := by decide +kernel
theorem ws_189 : Cond.selects "SnowKeepsModel" ({ cls := "SnowKeepsModel", name := "fails", desc := "(I)I" } : MethodName) ({ cls := "SnowKeepsModel", name := "fails", desc := "(I)I" } : MethodName) ∈ lw_tbl := by decide +kernel
theorem ws_190 : Cond.selects "SnowKeepsModel" ({ cls := "SnowKeepsModel", name := "readsOn", desc := "()V" } : MethodName) ({ cls := "SnowKeepsModel", name := "readsOn", desc := "()V" } : MethodName) ∈ lw_tbl := by decide +kernel
theorem ws_194 : Cond.selects "SnowKeepsModel" ({ cls := "SnowKeepsModel", name := "took", desc := "(Ljava/lang/String;)Z" } : MethodName) ({ cls := "SnowKeepsModel", name := "took", desc := "(Ljava/lang/String;)Z" } : MethodName) ∈ lw_tbl := by decide +kernel
theorem ws_196 : Cond.selects "SnowKeepsModel" ({ cls := "SnowKeepsModel", name := "blames", desc := "(I)V" } : MethodName) ({ cls := "SnowKeepsModel", name := "blames", desc := "(I)V" } : MethodName) ∈ lw_tbl := by decide +kernel
theorem ws_197 : Cond.selects "SnowKeepsModel" ({ cls := "SnowKeepsModel", name := "number", desc := "(II)I" } : MethodName) ({ cls := "SnowKeepsModel", name := "number", desc := "(II)I" } : MethodName) ∈ lw_tbl := by decide +kernel
theorem ws_198 : Cond.selects "SnowKeepsModel" ({ cls := "SnowKeepsModel", name := "readStop", desc := "()V" } : MethodName) ({ cls := "SnowKeepsModel", name := "readStop", desc := "()V" } : MethodName) ∈ lw_tbl := by decide +kernel
theorem ws_199 : Cond.selects "SnowKeepsModel" ({ cls := "SnowKeepsModel", name := "readLine", desc := "()V" } : MethodName) ({ cls := "SnowKeepsModel", name := "readLine", desc := "()V" } : MethodName) ∈ lw_tbl := by decide +kernel
theorem ws_192 : Cond.selects "SnowKeepsModel" ({ cls := "SnowKeepsModel", name := "see", desc := "(I)I" } : MethodName) ({ cls := "SnowKeepsModel", name := "see", desc := "(I)I" } : MethodName) ∈ lw_tbl := by decide +kernel
theorem ws_195 : Cond.selects "SnowKeepsModel" ({ cls := "SnowKeepsModel", name := "isWord", desc := "(Ljava/lang/String;)Z" } : MethodName) ({ cls := "SnowKeepsModel", name := "isWord", desc := "(Ljava/lang/String;)Z" } : MethodName) ∈ lw_tbl := by decide +kernel
theorem ws_200 : Cond.selects "SnowKeepsModel" ({ cls := "SnowKeepsModel", name := "readPath", desc := "()V" } : MethodName) ({ cls := "SnowKeepsModel", name := "readPath", desc := "()V" } : MethodName) ∈ lw_tbl := by decide +kernel
theorem ws_203 : Cond.selects "SnowKeepsModel" ({ cls := "SnowKeepsModel", name := "readWalker", desc := "()V" } : MethodName) ({ cls := "SnowKeepsModel", name := "readWalker", desc := "()V" } : MethodName) ∈ lw_tbl := by decide +kernel
theorem ws_205 : Cond.selects "SnowKeepsModel" ({ cls := "SnowKeepsModel", name := "readStorm", desc := "()V" } : MethodName) ({ cls := "SnowKeepsModel", name := "readStorm", desc := "()V" } : MethodName) ∈ lw_tbl := by decide +kernel
theorem ws_201 : Cond.selects "SnowKeepsModel" ({ cls := "SnowKeepsModel", name := "place", desc := "()I" } : MethodName) ({ cls := "SnowKeepsModel", name := "place", desc := "()I" } : MethodName) ∈ lw_tbl := by decide +kernel
theorem ws_204 : Cond.selects "SnowKeepsModel" ({ cls := "SnowKeepsModel", name := "readBeat", desc := "(I)V" } : MethodName) ({ cls := "SnowKeepsModel", name := "readBeat", desc := "(I)V" } : MethodName) ∈ lw_tbl := by decide +kernel
theorem ws_209 : Cond.selects "SnowKeepsModel" ({ cls := "SnowKeepsModel", name := "printsOf", desc := "(I)I" } : MethodName) ({ cls := "SnowKeepsModel", name := "printsOf", desc := "(I)I" } : MethodName) ∈ lw_tbl := by decide +kernel
theorem ws_210 : Cond.selects "SnowKeepsModel" ({ cls := "SnowKeepsModel", name := "many", desc := "()I" } : MethodName) ({ cls := "SnowKeepsModel", name := "many", desc := "()I" } : MethodName) ∈ lw_tbl := by decide +kernel
theorem ws_211 : Cond.selects "SnowKeepsModel" ({ cls := "SnowKeepsModel", name := "wayOf", desc := "(I)I" } : MethodName) ({ cls := "SnowKeepsModel", name := "wayOf", desc := "(I)I" } : MethodName) ∈ lw_tbl := by decide +kernel
theorem ws_213 : Cond.selects "SnowKeepsModel" ({ cls := "SnowKeepsModel", name := "isPlace", desc := "(J)Z" } : MethodName) ({ cls := "SnowKeepsModel", name := "isPlace", desc := "(J)Z" } : MethodName) ∈ lw_tbl := by decide +kernel
theorem ws_215 : Cond.selects "SnowKeepsModel" ({ cls := "SnowKeepsModel", name := "laysFar", desc := "(IZ)V" } : MethodName) ({ cls := "SnowKeepsModel", name := "laysFar", desc := "(IZ)V" } : MethodName) ∈ lw_tbl := by decide +kernel
theorem ws_214 : Cond.selects "SnowKeepsModel" ({ cls := "SnowKeepsModel", name := "places", desc := "()I" } : MethodName) ({ cls := "SnowKeepsModel", name := "places", desc := "()I" } : MethodName) ∈ lw_tbl := by decide +kernel
theorem ws_216 : Cond.selects "SnowKeepsModel" ({ cls := "SnowKeepsModel", name := "from", desc := "(I)I" } : MethodName) ({ cls := "SnowKeepsModel", name := "from", desc := "(I)I" } : MethodName) ∈ lw_tbl := by decide +kernel
theorem ws_217 : Cond.selects "SnowKeepsModel" ({ cls := "SnowKeepsModel", name := "to", desc := "(I)I" } : MethodName) ({ cls := "SnowKeepsModel", name := "to", desc := "(I)I" } : MethodName) ∈ lw_tbl := by decide +kernel
theorem ws_219 : Cond.selects "SnowKeepsModel" ({ cls := "SnowKeepsModel", name := "isWalker", desc := "(J)Z" } : MethodName) ({ cls := "SnowKeepsModel", name := "isWalker", desc := "(J)Z" } : MethodName) ∈ lw_tbl := by decide +kernel
theorem ws_221 : Cond.selects "SnowKeepsModel" ({ cls := "SnowKeepsModel", name := "whose", desc := "(I)I" } : MethodName) ({ cls := "SnowKeepsModel", name := "whose", desc := "(I)I" } : MethodName) ∈ lw_tbl := by decide +kernel
theorem ws_222 : Cond.selects "SnowKeepsModel" ({ cls := "SnowKeepsModel", name := "eldestOf", desc := "(I)I" } : MethodName) ({ cls := "SnowKeepsModel", name := "eldestOf", desc := "(I)I" } : MethodName) ∈ lw_tbl := by decide +kernel
theorem ws_220 : Cond.selects "SnowKeepsModel" ({ cls := "SnowKeepsModel", name := "walkers", desc := "()I" } : MethodName) ({ cls := "SnowKeepsModel", name := "walkers", desc := "()I" } : MethodName) ∈ lw_tbl := by decide +kernel
theorem ws_225 : Cond.selects "SnowKeepsModel" ({ cls := "SnowKeepsModel", name := "loses", desc := "(I)V" } : MethodName) ({ cls := "SnowKeepsModel", name := "loses", desc := "(I)V" } : MethodName) ∈ lw_tbl := by decide +kernel
theorem ws_227 : Cond.selects "SnowKeepsModel" ({ cls := "SnowKeepsModel", name := "whyNot", desc := "(JJ)I" } : MethodName) ({ cls := "SnowKeepsModel", name := "whyNot", desc := "(JJ)I" } : MethodName) ∈ lw_tbl := by decide +kernel
theorem ws_230 : Cond.selects "SnowKeepsModel" ({ cls := "SnowKeepsModel", name := "goes", desc := "(II)V" } : MethodName) ({ cls := "SnowKeepsModel", name := "goes", desc := "(II)V" } : MethodName) ∈ lw_tbl := by decide +kernel
theorem ws_228 : Cond.selects "SnowKeepsModel" ({ cls := "SnowKeepsModel", name := "where", desc := "(I)I" } : MethodName) ({ cls := "SnowKeepsModel", name := "where", desc := "(I)I" } : MethodName) ∈ lw_tbl := by decide +kernel
theorem ws_229 : Cond.selects "SnowKeepsModel" ({ cls := "SnowKeepsModel", name := "way", desc := "(II)I" } : MethodName) ({ cls := "SnowKeepsModel", name := "way", desc := "(II)I" } : MethodName) ∈ lw_tbl := by decide +kernel
theorem ws_231 : Cond.selects "SnowKeepsModel" ({ cls := "SnowKeepsModel", name := "remembers", desc := "(II)V" } : MethodName) ({ cls := "SnowKeepsModel", name := "remembers", desc := "(II)V" } : MethodName) ∈ lw_tbl := by decide +kernel
theorem ws_232 : Cond.selects "SnowKeepsModel" ({ cls := "SnowKeepsModel", name := "allSteps", desc := "()I" } : MethodName) ({ cls := "SnowKeepsModel", name := "allSteps", desc := "()I" } : MethodName) ∈ lw_tbl := by decide +kernel
theorem ws_235 : Cond.selects "SnowKeepsModel" ({ cls := "SnowKeepsModel", name := "trayFault", desc := "(I)I" } : MethodName) ({ cls := "SnowKeepsModel", name := "trayFault", desc := "(I)I" } : MethodName) ∈ lw_tbl := by decide +kernel
theorem ws_237 : Cond.selects "SnowKeepsModel" ({ cls := "SnowKeepsModel", name := "goesBy", desc := "(I)I" } : MethodName) ({ cls := "SnowKeepsModel", name := "goesBy", desc := "(I)I" } : MethodName) ∈ lw_tbl := by decide +kernel
theorem ws_239 : Cond.selects "SnowKeepsModel" ({ cls := "SnowKeepsModel", name := "printed", desc := "()I" } : MethodName) ({ cls := "SnowKeepsModel", name := "printed", desc := "()I" } : MethodName) ∈ lw_tbl := by decide +kernel
theorem ws_238 : Cond.selects "SnowKeepsModel" ({ cls := "SnowKeepsModel", name := "whyTold", desc := "(J)I" } : MethodName) ({ cls := "SnowKeepsModel", name := "whyTold", desc := "(J)I" } : MethodName) ∈ lw_tbl := by decide +kernel
theorem ws_243 : Cond.selects "SnowKeepsModel" ({ cls := "SnowKeepsModel", name := "draw", desc := "(I)I" } : MethodName) ({ cls := "SnowKeepsModel", name := "draw", desc := "(I)I" } : MethodName) ∈ lw_tbl := by decide +kernel
theorem ws_244 : Cond.selects "SnowKeepsModel" ({ cls := "SnowKeepsModel", name := "besides", desc := "(I)I" } : MethodName) ({ cls := "SnowKeepsModel", name := "besides", desc := "(I)I" } : MethodName) ∈ lw_tbl := by decide +kernel
theorem ws_246 : Cond.selects "SnowKeepsModel" ({ cls := "SnowKeepsModel", name := "between", desc := "(II)I" } : MethodName) ({ cls := "SnowKeepsModel", name := "between", desc := "(II)I" } : MethodName) ∈ lw_tbl := by decide +kernel
theorem ws_249 : Cond.selects "SnowKeepsModel" ({ cls := "SnowKeepsModel", name := "latestAlong", desc := "(I)I" } : MethodName) ({ cls := "SnowKeepsModel", name := "latestAlong", desc := "(I)I" } : MethodName) ∈ lw_tbl := by decide +kernel
theorem ws_253 : Cond.selects "SnowKeepsModel" ({ cls := "SnowKeepsModel", name := "touched", desc := "(I)I" } : MethodName) ({ cls := "SnowKeepsModel", name := "touched", desc := "(I)I" } : MethodName) ∈ lw_tbl := by decide +kernel
theorem ws_255 : Cond.selects "SnowKeepsModel" ({ cls := "SnowKeepsModel", name := "till", desc := "(I)I" } : MethodName) ({ cls := "SnowKeepsModel", name := "till", desc := "(I)I" } : MethodName) ∈ lw_tbl := by decide +kernel
theorem ws_257 : Cond.selects "SnowKeepsModel" ({ cls := "SnowKeepsModel", name := "latestOf", desc := "(I)I" } : MethodName) ({ cls := "SnowKeepsModel", name := "latestOf", desc := "(I)I" } : MethodName) ∈ lw_tbl := by decide +kernel
theorem ws_263 : Cond.selects "SnowKeepsModel" ({ cls := "SnowKeepsModel", name := "backs", desc := "(I)I" } : MethodName) ({ cls := "SnowKeepsModel", name := "backs", desc := "(I)I" } : MethodName) ∈ lw_tbl := by decide +kernel
theorem ws_267 : Cond.selects "SnowKeepsModel" ({ cls := "SnowKeepsModel", name := "turn", desc := "()I" } : MethodName) ({ cls := "SnowKeepsModel", name := "turn", desc := "()I" } : MethodName) ∈ lw_tbl := by decide +kernel
theorem ws_268 : Cond.selects "SnowKeepsModel" ({ cls := "SnowKeepsModel", name := "beats", desc := "(I)I" } : MethodName) ({ cls := "SnowKeepsModel", name := "beats", desc := "(I)I" } : MethodName) ∈ lw_tbl := by decide +kernel
theorem ws_271 : Cond.selects "SnowKeepsModel" ({ cls := "SnowKeepsModel", name := "laysState", desc := "(I)V" } : MethodName) ({ cls := "SnowKeepsModel", name := "laysState", desc := "(I)V" } : MethodName) ∈ lw_tbl := by decide +kernel
theorem ws_272 : Cond.selects "SnowKeepsModel" ({ cls := "SnowKeepsModel", name := "areAlike", desc := "(II)Z" } : MethodName) ({ cls := "SnowKeepsModel", name := "areAlike", desc := "(II)Z" } : MethodName) ∈ lw_tbl := by decide +kernel
theorem ws_276 : Cond.selects "SnowKeepsModel" ({ cls := "SnowKeepsModel", name := "wolfWay", desc := "(I)I" } : MethodName) ({ cls := "SnowKeepsModel", name := "wolfWay", desc := "(I)I" } : MethodName) ∈ lw_tbl := by decide +kernel
theorem ws_278 : Cond.selects "SnowKeepsModel" ({ cls := "SnowKeepsModel", name := "huntedOn", desc := "(I)I" } : MethodName) ({ cls := "SnowKeepsModel", name := "huntedOn", desc := "(I)I" } : MethodName) ∈ lw_tbl := by decide +kernel
theorem ws_280 : Cond.selects "SnowKeepsModel" ({ cls := "SnowKeepsModel", name := "blursOn", desc := "(III)V" } : MethodName) ({ cls := "SnowKeepsModel", name := "blursOn", desc := "(III)V" } : MethodName) ∈ lw_tbl := by decide +kernel
theorem ws_283 : Cond.selects "SnowKeepsModel" ({ cls := "SnowKeepsModel", name := "comeHome", desc := "(I)Z" } : MethodName) ({ cls := "SnowKeepsModel", name := "comeHome", desc := "(I)Z" } : MethodName) ∈ lw_tbl := by decide +kernel
theorem ws_285 : Cond.selects "SnowKeepsModel" ({ cls := "SnowKeepsModel", name := "isSpent", desc := "()Z" } : MethodName) ({ cls := "SnowKeepsModel", name := "isSpent", desc := "()Z" } : MethodName) ∈ lw_tbl := by decide +kernel
theorem ws_286 : Cond.selects "SnowKeepsModel" ({ cls := "SnowKeepsModel", name := "laysLeft", desc := "()V" } : MethodName) ({ cls := "SnowKeepsModel", name := "laysLeft", desc := "()V" } : MethodName) ∈ lw_tbl := by decide +kernel
theorem ws_287 : Cond.selects "SnowKeepsModel" ({ cls := "SnowKeepsModel", name := "rowsFrom", desc := "(IJ)J" } : MethodName) ({ cls := "SnowKeepsModel", name := "rowsFrom", desc := "(IJ)J" } : MethodName) ∈ lw_tbl := by decide +kernel
theorem ws_288 : Cond.selects "SnowKeepsModel" ({ cls := "SnowKeepsModel", name := "goesRows", desc := "(II)V" } : MethodName) ({ cls := "SnowKeepsModel", name := "goesRows", desc := "(II)V" } : MethodName) ∈ lw_tbl := by decide +kernel
theorem ws_293 : Cond.selects "SnowKeepsModel" ({ cls := "SnowKeepsModel", name := "parts", desc := "(III)J" } : MethodName) ({ cls := "SnowKeepsModel", name := "parts", desc := "(III)J" } : MethodName) ∈ lw_tbl := by decide +kernel
theorem ws_294 : Cond.selects "SnowKeepsModel" ({ cls := "SnowKeepsModel", name := "exchanges", desc := "()V" } : MethodName) ({ cls := "SnowKeepsModel", name := "exchanges", desc := "()V" } : MethodName) ∈ lw_tbl := by decide +kernel
theorem ws_296 : Cond.selects "SnowKeepsModel" ({ cls := "SnowKeepsModel", name := "walks", desc := "(III)V" } : MethodName) ({ cls := "SnowKeepsModel", name := "walks", desc := "(III)V" } : MethodName) ∈ lw_tbl := by decide +kernel
theorem ws_297 : Cond.selects "SnowKeepsModel" ({ cls := "SnowKeepsModel", name := "meetsSign", desc := "(I)V" } : MethodName) ({ cls := "SnowKeepsModel", name := "meetsSign", desc := "(I)V" } : MethodName) ∈ lw_tbl := by decide +kernel
theorem ws_299 : Cond.selects "SnowKeepsModel" ({ cls := "SnowKeepsModel", name := "signFault", desc := "(I)I" } : MethodName) ({ cls := "SnowKeepsModel", name := "signFault", desc := "(I)I" } : MethodName) ∈ lw_tbl := by decide +kernel
theorem ws_301 : Cond.selects "SnowKeepsModel" ({ cls := "SnowKeepsModel", name := "written", desc := "(I)I" } : MethodName) ({ cls := "SnowKeepsModel", name := "written", desc := "(I)I" } : MethodName) ∈ lw_tbl := by decide +kernel
theorem ws_300 : Cond.selects "SnowKeepsModel" ({ cls := "SnowKeepsModel", name := "placeIn", desc := "(I)I" } : MethodName) ({ cls := "SnowKeepsModel", name := "placeIn", desc := "(I)I" } : MethodName) ∈ lw_tbl := by decide +kernel
theorem ws_302 : Cond.selects "SnowKeepsModel" ({ cls := "SnowKeepsModel", name := "laysFarther", desc := "(IZ)V" } : MethodName) ({ cls := "SnowKeepsModel", name := "laysFarther", desc := "(IZ)V" } : MethodName) ∈ lw_tbl := by decide +kernel
theorem ws_305 : Cond.selects "SnowKeepsModel" ({ cls := "SnowKeepsModel", name := "patrolled", desc := "()I" } : MethodName) ({ cls := "SnowKeepsModel", name := "patrolled", desc := "()I" } : MethodName) ∈ lw_tbl := by decide +kernel
theorem ws_310 : Cond.selects "SnowKeepsModel" ({ cls := "SnowKeepsModel", name := "clears", desc := "(IIIZ)V" } : MethodName) ({ cls := "SnowKeepsModel", name := "clears", desc := "(IIIZ)V" } : MethodName) ∈ lw_tbl := by decide +kernel
theorem ws_311 : Cond.selects "SnowKeepsModel" ({ cls := "SnowKeepsModel", name := "isOnly", desc := "(I)Z" } : MethodName) ({ cls := "SnowKeepsModel", name := "isOnly", desc := "(I)Z" } : MethodName) ∈ lw_tbl := by decide +kernel
theorem ws_313 : Cond.selects "SnowKeepsModel" ({ cls := "SnowKeepsModel", name := "cut", desc := "(IIJ)J" } : MethodName) ({ cls := "SnowKeepsModel", name := "cut", desc := "(IIJ)J" } : MethodName) ∈ lw_tbl := by decide +kernel
theorem xc_0_0 : decode prog_39_method_4_code 0 = .ok (.aload_n 0, 1) := by decide +kernel
theorem xc_0_1 : decode prog_39_method_4_code 1 = .ok (.aload_n 1, 1) := by decide +kernel
theorem xc_0_2 : decode prog_39_method_4_code 2 = .ok (.invokespecial 13, 3) := by decide +kernel
theorem xc_0_5 : decode prog_39_method_4_code 5 = .ok (.return_, 1) := by decide +kernel
theorem xc_1_0 : decode prog_24_method_2_code 0 = .ok (.aload_n 0, 1) := by decide +kernel
theorem xc_1_1 : decode prog_24_method_2_code 1 = .ok (.aload_n 1, 1) := by decide +kernel
theorem xc_1_2 : decode prog_24_method_2_code 2 = .ok (.invokespecial 7, 3) := by decide +kernel
theorem xc_1_5 : decode prog_24_method_2_code 5 = .ok (.return_, 1) := by decide +kernel
theorem xc_2_0 : decode prog_23_method_2_code 0 = .ok (.aload_n 0, 1) := by decide +kernel
theorem xc_2_1 : decode prog_23_method_2_code 1 = .ok (.aload_n 1, 1) := by decide +kernel
theorem xc_2_2 : decode prog_23_method_2_code 2 = .ok (.invokespecial 7, 3) := by decide +kernel
theorem xc_2_5 : decode prog_23_method_2_code 5 = .ok (.return_, 1) := by decide +kernel
theorem xc_3_0 : decode prog_25_method_2_code 0 = .ok (.aload_n 0, 1) := by decide +kernel
theorem xc_3_1 : decode prog_25_method_2_code 1 = .ok (.aload_n 1, 1) := by decide +kernel
theorem xc_3_2 : decode prog_25_method_2_code 2 = .ok (.invokespecial 7, 3) := by decide +kernel
theorem xc_3_5 : decode prog_25_method_2_code 5 = .ok (.return_, 1) := by decide +kernel
theorem atX_148_0 : ∀ w ∈ xw_at "SnowKeeps" 148 (excP 0) "java/lang/RuntimeException" ["java/lang/Exception"] 13 prog_39_method_4_code, w ∈ lw_tbl ∧ (goodWord w || nestW w) = true := by decide +kernel
theorem atY_148_0 : ∀ w ∈ Cond.classLink "SnowKeeps" 144 (excP 0) :: Cond.initialized (excP 0) :: xw_at "SnowKeeps" 148 (excP 0) "java/lang/RuntimeException" ["java/lang/Exception"] 13 prog_39_method_4_code, vx_ot w = true := by decide +kernel
theorem atX_272_1 : ∀ w ∈ xw_at "SnowKeeps" 272 (excP 1) "java/lang/RuntimeException" ["java/lang/Exception"] 7 prog_24_method_2_code, w ∈ lw_tbl ∧ (goodWord w || nestW w) = true := by decide +kernel
theorem atY_272_1 : ∀ w ∈ Cond.classLink "SnowKeeps" 268 (excP 1) :: Cond.initialized (excP 1) :: xw_at "SnowKeeps" 272 (excP 1) "java/lang/RuntimeException" ["java/lang/Exception"] 7 prog_24_method_2_code, vx_ot w = true := by decide +kernel
theorem atX_299_2 : ∀ w ∈ xw_at "SnowKeeps" 299 (excP 2) "java/lang/RuntimeException" ["java/lang/Exception"] 7 prog_23_method_2_code, w ∈ lw_tbl ∧ (goodWord w || nestW w) = true := by decide +kernel
theorem atY_299_2 : ∀ w ∈ Cond.classLink "SnowKeeps" 295 (excP 2) :: Cond.initialized (excP 2) :: xw_at "SnowKeeps" 299 (excP 2) "java/lang/RuntimeException" ["java/lang/Exception"] 7 prog_23_method_2_code, vx_ot w = true := by decide +kernel
theorem atX_436_3 : ∀ w ∈ xw_at "SnowKeeps" 436 (excP 3) "java/lang/RuntimeException" ["java/lang/Exception"] 7 prog_25_method_2_code, w ∈ lw_tbl ∧ (goodWord w || nestW w) = true := by decide +kernel
theorem atY_436_3 : ∀ w ∈ Cond.classLink "SnowKeeps" 432 (excP 3) :: Cond.initialized (excP 3) :: xw_at "SnowKeeps" 436 (excP 3) "java/lang/RuntimeException" ["java/lang/Exception"] 7 prog_25_method_2_code, vx_ot w = true := by decide +kernel
def SRl : List (String × Nat × String × Nat) := [("SnowKeeps$Reader", 50, "places", 0), ("SnowKeeps$Reader", 69, "path", 1), ("SnowKeeps$Reader", 74, "walker", 2), ("SnowKeeps$Reader", 79, "keep", 3), ("SnowKeeps$Reader", 84, "storm", 4), ("SnowKeeps$Reader", 89, "wolves", 5), ("SnowKeeps$Reader", 112, "beat", 6), ("SnowKeepsModel", 206, "places", 0), ("SnowKeepsModel", 181, "path", 1), ("SnowKeepsModel", 186, "walker", 2), ("SnowKeepsModel", 191, "keep", 3), ("SnowKeepsModel", 193, "storm", 4), ("SnowKeepsModel", 198, "wolves", 5), ("SnowKeepsModel", 173, "beat", 6)]
def MRl : List (String × Nat × String) := [("SnowKeeps", 473, "a number out of its bounds"), ("SnowKeeps", 146, "no such path"), ("SnowKeeps", 457, "no such place"), ("SnowKeeps", 462, "no such walker"), ("SnowKeeps", 191, "no such print"), ("SnowKeeps", 469, "the tray is missing"), ("SnowKeeps", 464, "no such tray"), ("SnowKeeps", 270, "no walkers"), ("SnowKeeps", 297, "fewer than no steps"), ("SnowKeeps", 306, "each makes 1 to 30 steps"), ("SnowKeeps", 311, "the wolves remember no such print"), ("SnowKeeps", 342, "a bargain is of 1 to 4 guides"), ("SnowKeeps", 346, "a guide goes out 0 to 30 steps"), ("SnowKeeps", 479, "no way, or more than 8 unlike ones"), ("SnowKeeps", 434, "the tray has no such place"), ("SnowKeeps", 471, "no such image"), ("SnowKeeps", 440, "no such image was made")]
def SRok (B : BigP) : Prop := ∀ q ∈ SRl, q ∈ B.1
def MRok (B : BigP) : Prop := ∀ q ∈ MRl, q ∈ B.2.1
