theorem wd_0 : Cond.selects "DuelSamples" ⟨"DuelSamples", "refuse", "(I)I"⟩ ⟨"DuelSamples", "refuse", "(I)I"⟩ ∈ TG := List.mem_filter.mpr ⟨List.mem_of_getElem? (i := 0) (by decide +kernel), rfl⟩
theorem wd_1 : Cond.selects "DuelSamples" ⟨"DuelSamples", "knownOf", "(II)I"⟩ ⟨"DuelSamples", "knownOf", "(II)I"⟩ ∈ TG := List.mem_filter.mpr ⟨List.mem_of_getElem? (i := 1) (by decide +kernel), rfl⟩
theorem wd_2 : Cond.selects "DuelSamples" ⟨"DuelSamples", "changeMethod", "(I)I"⟩ ⟨"DuelSamples", "changeMethod", "(I)I"⟩ ∈ TG := List.mem_filter.mpr ⟨List.mem_of_getElem? (i := 2) (by decide +kernel), rfl⟩
theorem wd_3 : Cond.selects "DuelSamples$Course" ⟨"DuelSamples$Course", "openFrom", "(I)I"⟩ ⟨"DuelSamples$Course", "openFrom", "(I)I"⟩ ∈ TG := List.mem_filter.mpr ⟨List.mem_of_getElem? (i := 3) (by decide +kernel), rfl⟩
theorem wd_4 : Cond.selects "DuelSamples$Course" ⟨"DuelSamples$Course", "isOpen", "(I)Z"⟩ ⟨"DuelSamples$Course", "isOpen", "(I)Z"⟩ ∈ TG := List.mem_filter.mpr ⟨List.mem_of_getElem? (i := 4) (by decide +kernel), rfl⟩
theorem wd_5 : Cond.selects "DuelSamples$Course" ⟨"DuelSamples$Course", "byDistance", "(LDuelSamples$Roster;I)I"⟩ ⟨"DuelSamples$Course", "byDistance", "(LDuelSamples$Roster;I)I"⟩ ∈ TG := List.mem_filter.mpr ⟨List.mem_of_getElem? (i := 5) (by decide +kernel), rfl⟩
theorem wd_6 : Cond.selects "DuelSamples$Course" ⟨"DuelSamples$Course", "pickOfStratum", "(LDuelSamples$Roster;)V"⟩ ⟨"DuelSamples$Course", "pickOfStratum", "(LDuelSamples$Roster;)V"⟩ ∈ TG := List.mem_filter.mpr ⟨List.mem_of_getElem? (i := 6) (by decide +kernel), rfl⟩
theorem wd_7 : Cond.selects "DuelSamples$Course" ⟨"DuelSamples$Course", "openOfStratum", "(LDuelSamples$Roster;II)I"⟩ ⟨"DuelSamples$Course", "openOfStratum", "(LDuelSamples$Roster;II)I"⟩ ∈ TG := List.mem_filter.mpr ⟨List.mem_of_getElem? (i := 7) (by decide +kernel), rfl⟩
theorem wd_8 : Cond.selects "DuelSamples$Course" ⟨"DuelSamples$Course", "pickByChance", "()V"⟩ ⟨"DuelSamples$Course", "pickByChance", "()V"⟩ ∈ TG := List.mem_filter.mpr ⟨List.mem_of_getElem? (i := 8) (by decide +kernel), rfl⟩
theorem wd_9 : Cond.selects "DuelSamples$Course" ⟨"DuelSamples$Course", "mostLeftBut", "(I)I"⟩ ⟨"DuelSamples$Course", "mostLeftBut", "(I)I"⟩ ∈ TG := List.mem_filter.mpr ⟨List.mem_of_getElem? (i := 9) (by decide +kernel), rfl⟩
theorem wd_10 : Cond.selects "DuelSamples$Course" ⟨"DuelSamples$Course", "chancesOfBoth", "()I"⟩ ⟨"DuelSamples$Course", "chancesOfBoth", "()I"⟩ ∈ TG := List.mem_filter.mpr ⟨List.mem_of_getElem? (i := 10) (by decide +kernel), rfl⟩
theorem wd_11 : Cond.selects "DuelSamples$Course" ⟨"DuelSamples$Course", "leftOfBoth", "()I"⟩ ⟨"DuelSamples$Course", "leftOfBoth", "()I"⟩ ∈ TG := List.mem_filter.mpr ⟨List.mem_of_getElem? (i := 11) (by decide +kernel), rfl⟩
theorem wd_12 : Cond.selects "DuelSamples$Course" ⟨"DuelSamples$Course", "chancesOfFirst", "()I"⟩ ⟨"DuelSamples$Course", "chancesOfFirst", "()I"⟩ ∈ TG := List.mem_filter.mpr ⟨List.mem_of_getElem? (i := 12) (by decide +kernel), rfl⟩
theorem wd_13 : Cond.selects "DuelSamples$Course" ⟨"DuelSamples$Course", "write", "(Z)V"⟩ ⟨"DuelSamples$Course", "write", "(Z)V"⟩ ∈ TG := List.mem_filter.mpr ⟨List.mem_of_getElem? (i := 13) (by decide +kernel), rfl⟩
theorem wd_14 : Cond.selects "DuelSamples$Course" ⟨"DuelSamples$Course", "leave", "(II)V"⟩ ⟨"DuelSamples$Course", "leave", "(II)V"⟩ ∈ TG := List.mem_filter.mpr ⟨List.mem_of_getElem? (i := 14) (by decide +kernel), rfl⟩
theorem wd_15 : Cond.selects "DuelSamples" ⟨"DuelSamples", "walksWith", "(III)I"⟩ ⟨"DuelSamples", "walksWith", "(III)I"⟩ ∈ TG := List.mem_filter.mpr ⟨List.mem_of_getElem? (i := 15) (by decide +kernel), rfl⟩
theorem wd_16 : Cond.selects "DuelSamples$Reach" ⟨"DuelSamples$Reach", "mark", "(I)V"⟩ ⟨"DuelSamples$Reach", "mark", "(I)V"⟩ ∈ TG := List.mem_filter.mpr ⟨List.mem_of_getElem? (i := 16) (by decide +kernel), rfl⟩
theorem wd_17 : Cond.selects "DuelSamples$Reach" ⟨"DuelSamples$Reach", "isSeen", "(I)Z"⟩ ⟨"DuelSamples$Reach", "isSeen", "(I)Z"⟩ ∈ TG := List.mem_filter.mpr ⟨List.mem_of_getElem? (i := 17) (by decide +kernel), rfl⟩
theorem wd_18 : Cond.selects "DuelSamples$Script" ⟨"DuelSamples$Script", "skipBlanks", "()V"⟩ ⟨"DuelSamples$Script", "skipBlanks", "()V"⟩ ∈ TG := List.mem_filter.mpr ⟨List.mem_of_getElem? (i := 18) (by decide +kernel), rfl⟩
theorem wd_19 : Cond.selects "DuelSamples$Script" ⟨"DuelSamples$Script", "byteAt", "(I)I"⟩ ⟨"DuelSamples$Script", "byteAt", "(I)I"⟩ ∈ TG := List.mem_filter.mpr ⟨List.mem_of_getElem? (i := 19) (by decide +kernel), rfl⟩
theorem wd_20 : Cond.selects "DuelSamples$Script" ⟨"DuelSamples$Script", "readSentence", "()I"⟩ ⟨"DuelSamples$Script", "readSentence", "()I"⟩ ∈ TG := List.mem_filter.mpr ⟨List.mem_of_getElem? (i := 20) (by decide +kernel), rfl⟩
theorem wd_21 : Cond.selects "DuelSamples$Script" ⟨"DuelSamples$Script", "readWord", "()I"⟩ ⟨"DuelSamples$Script", "readWord", "()I"⟩ ∈ TG := List.mem_filter.mpr ⟨List.mem_of_getElem? (i := 21) (by decide +kernel), rfl⟩
theorem wd_22 : Cond.selects "DuelSamples$Script" ⟨"DuelSamples$Script", "stands", "(Ljava/lang/String;II)Z"⟩ ⟨"DuelSamples$Script", "stands", "(Ljava/lang/String;II)Z"⟩ ∈ TG := List.mem_filter.mpr ⟨List.mem_of_getElem? (i := 22) (by decide +kernel), rfl⟩
theorem wd_23 : Cond.selects "DuelSamples$Script" ⟨"DuelSamples$Script", "readNumber", "(I)I"⟩ ⟨"DuelSamples$Script", "readNumber", "(I)I"⟩ ∈ TG := List.mem_filter.mpr ⟨List.mem_of_getElem? (i := 23) (by decide +kernel), rfl⟩
theorem wd_24 : Cond.selects "DuelSamples$Script" ⟨"DuelSamples$Script", "mayStand", "(III)Z"⟩ ⟨"DuelSamples$Script", "mayStand", "(III)Z"⟩ ∈ TG := List.mem_filter.mpr ⟨List.mem_of_getElem? (i := 24) (by decide +kernel), rfl⟩
theorem wd_25 : Cond.selects "DuelSamples" ⟨"DuelSamples", "perform", "(I)V"⟩ ⟨"DuelSamples", "perform", "(I)V"⟩ ∈ TG := List.mem_filter.mpr ⟨List.mem_of_getElem? (i := 25) (by decide +kernel), rfl⟩
theorem wd_26 : Cond.selects "DuelSamples" ⟨"DuelSamples", "state", "(I)I"⟩ ⟨"DuelSamples", "state", "(I)I"⟩ ∈ TG := List.mem_filter.mpr ⟨List.mem_of_getElem? (i := 26) (by decide +kernel), rfl⟩
theorem wd_27 : Cond.selects "DuelSamplesModel" ⟨"DuelSamplesModel", "bad", "(I)I"⟩ ⟨"DuelSamplesModel", "bad", "(I)I"⟩ ∈ TG := List.mem_filter.mpr ⟨List.mem_of_getElem? (i := 27) (by decide +kernel), rfl⟩
theorem wd_28 : Cond.selects "DuelSamplesModel" ⟨"DuelSamplesModel", "full", "()I"⟩ ⟨"DuelSamplesModel", "full", "()I"⟩ ∈ TG := List.mem_filter.mpr ⟨List.mem_of_getElem? (i := 28) (by decide +kernel), rfl⟩
theorem wd_29 : Cond.selects "DuelSamplesModel" ⟨"DuelSamplesModel", "lays", "(IIIII)V"⟩ ⟨"DuelSamplesModel", "lays", "(IIIII)V"⟩ ∈ TG := List.mem_filter.mpr ⟨List.mem_of_getElem? (i := 29) (by decide +kernel), rfl⟩
theorem wd_30 : Cond.selects "DuelSamplesModel" ⟨"DuelSamplesModel", "isUnit", "(I)Z"⟩ ⟨"DuelSamplesModel", "isUnit", "(I)Z"⟩ ∈ TG := List.mem_filter.mpr ⟨List.mem_of_getElem? (i := 30) (by decide +kernel), rfl⟩
theorem wd_31 : Cond.selects "DuelSamplesModel" ⟨"DuelSamplesModel", "becomes", "(III)I"⟩ ⟨"DuelSamplesModel", "becomes", "(III)I"⟩ ∈ TG := List.mem_filter.mpr ⟨List.mem_of_getElem? (i := 31) (by decide +kernel), rfl⟩
theorem wd_32 : Cond.selects "DuelSamplesModel" ⟨"DuelSamplesModel", "at", "(II)I"⟩ ⟨"DuelSamplesModel", "at", "(II)I"⟩ ∈ TG := List.mem_filter.mpr ⟨List.mem_of_getElem? (i := 32) (by decide +kernel), rfl⟩
theorem wd_33 : Cond.selects "DuelSamplesModel" ⟨"DuelSamplesModel", "goesEmpty", "()V"⟩ ⟨"DuelSamplesModel", "goesEmpty", "()V"⟩ ∈ TG := List.mem_filter.mpr ⟨List.mem_of_getElem? (i := 33) (by decide +kernel), rfl⟩
theorem wd_34 : Cond.selects "DuelSamplesModel" ⟨"DuelSamplesModel", "sumOf", "(I)I"⟩ ⟨"DuelSamplesModel", "sumOf", "(I)I"⟩ ∈ TG := List.mem_filter.mpr ⟨List.mem_of_getElem? (i := 34) (by decide +kernel), rfl⟩
theorem wd_35 : Cond.selects "DuelSamplesModel" ⟨"DuelSamplesModel", "opens", "()I"⟩ ⟨"DuelSamplesModel", "opens", "()I"⟩ ∈ TG := List.mem_filter.mpr ⟨List.mem_of_getElem? (i := 35) (by decide +kernel), rfl⟩
theorem wd_36 : Cond.selects "DuelSamplesModel" ⟨"DuelSamplesModel", "walks", "(I)I"⟩ ⟨"DuelSamplesModel", "walks", "(I)I"⟩ ∈ TG := List.mem_filter.mpr ⟨List.mem_of_getElem? (i := 36) (by decide +kernel), rfl⟩
theorem wd_37 : Cond.selects "DuelSamplesModel" ⟨"DuelSamplesModel", "walked", "(I)I"⟩ ⟨"DuelSamplesModel", "walked", "(I)I"⟩ ∈ TG := List.mem_filter.mpr ⟨List.mem_of_getElem? (i := 37) (by decide +kernel), rfl⟩
theorem wd_38 : Cond.selects "DuelSamplesModel" ⟨"DuelSamplesModel", "begins", "()V"⟩ ⟨"DuelSamplesModel", "begins", "()V"⟩ ∈ TG := List.mem_filter.mpr ⟨List.mem_of_getElem? (i := 38) (by decide +kernel), rfl⟩
theorem wd_39 : Cond.selects "DuelSamplesModel" ⟨"DuelSamplesModel", "finds", "()Z"⟩ ⟨"DuelSamplesModel", "finds", "()Z"⟩ ∈ TG := List.mem_filter.mpr ⟨List.mem_of_getElem? (i := 39) (by decide +kernel), rfl⟩
theorem wd_40 : Cond.selects "DuelSamplesModel" ⟨"DuelSamplesModel", "firstOpen", "(I)I"⟩ ⟨"DuelSamplesModel", "firstOpen", "(I)I"⟩ ∈ TG := List.mem_filter.mpr ⟨List.mem_of_getElem? (i := 40) (by decide +kernel), rfl⟩
theorem wd_41 : Cond.selects "DuelSamplesModel" ⟨"DuelSamplesModel", "isOpen", "(I)Z"⟩ ⟨"DuelSamplesModel", "isOpen", "(I)Z"⟩ ∈ TG := List.mem_filter.mpr ⟨List.mem_of_getElem? (i := 41) (by decide +kernel), rfl⟩
theorem wd_42 : Cond.selects "DuelSamplesModel" ⟨"DuelSamplesModel", "bestOf", "(II)I"⟩ ⟨"DuelSamplesModel", "bestOf", "(II)I"⟩ ∈ TG := List.mem_filter.mpr ⟨List.mem_of_getElem? (i := 42) (by decide +kernel), rfl⟩
theorem wd_43 : Cond.selects "DuelSamplesModel" ⟨"DuelSamplesModel", "nextIn", "(II)I"⟩ ⟨"DuelSamplesModel", "nextIn", "(II)I"⟩ ∈ TG := List.mem_filter.mpr ⟨List.mem_of_getElem? (i := 43) (by decide +kernel), rfl⟩
theorem wd_44 : Cond.selects "DuelSamplesModel" ⟨"DuelSamplesModel", "sizeOfPlay", "()I"⟩ ⟨"DuelSamplesModel", "sizeOfPlay", "()I"⟩ ∈ TG := List.mem_filter.mpr ⟨List.mem_of_getElem? (i := 44) (by decide +kernel), rfl⟩
theorem wd_45 : Cond.selects "DuelSamplesModel" ⟨"DuelSamplesModel", "chancesOfOne", "()I"⟩ ⟨"DuelSamplesModel", "chancesOfOne", "()I"⟩ ∈ TG := List.mem_filter.mpr ⟨List.mem_of_getElem? (i := 45) (by decide +kernel), rfl⟩
theorem wd_46 : Cond.selects "DuelSamplesModel" ⟨"DuelSamplesModel", "gets", "(Z)V"⟩ ⟨"DuelSamplesModel", "gets", "(Z)V"⟩ ∈ TG := List.mem_filter.mpr ⟨List.mem_of_getElem? (i := 46) (by decide +kernel), rfl⟩
theorem wd_47 : Cond.selects "DuelSamplesModel" ⟨"DuelSamplesModel", "sampleNow", "()I"⟩ ⟨"DuelSamplesModel", "sampleNow", "()I"⟩ ∈ TG := List.mem_filter.mpr ⟨List.mem_of_getElem? (i := 47) (by decide +kernel), rfl⟩
theorem wd_48 : Cond.selects "DuelSamplesModel" ⟨"DuelSamplesModel", "wasOf", "(I)I"⟩ ⟨"DuelSamplesModel", "wasOf", "(I)I"⟩ ∈ TG := List.mem_filter.mpr ⟨List.mem_of_getElem? (i := 48) (by decide +kernel), rfl⟩
theorem wd_49 : Cond.selects "DuelSamplesModel" ⟨"DuelSamplesModel", "countedUp", "(II)J"⟩ ⟨"DuelSamplesModel", "countedUp", "(II)J"⟩ ∈ TG := List.mem_filter.mpr ⟨List.mem_of_getElem? (i := 49) (by decide +kernel), rfl⟩
theorem wd_50 : Cond.selects "DuelSamplesModel" ⟨"DuelSamplesModel", "missOf", "(I)J"⟩ ⟨"DuelSamplesModel", "missOf", "(I)J"⟩ ∈ TG := List.mem_filter.mpr ⟨List.mem_of_getElem? (i := 50) (by decide +kernel), rfl⟩
theorem wd_51 : Cond.selects "DuelSamplesModel" ⟨"DuelSamplesModel", "howOften", "(III)I"⟩ ⟨"DuelSamplesModel", "howOften", "(III)I"⟩ ∈ TG := List.mem_filter.mpr ⟨List.mem_of_getElem? (i := 51) (by decide +kernel), rfl⟩
theorem wd_52 : Cond.selects "DuelSamplesModel" ⟨"DuelSamplesModel", "layCan", "()V"⟩ ⟨"DuelSamplesModel", "layCan", "()V"⟩ ∈ TG := List.mem_filter.mpr ⟨List.mem_of_getElem? (i := 52) (by decide +kernel), rfl⟩
theorem wd_53 : Cond.selects "DuelSamplesModel" ⟨"DuelSamplesModel", "goesThrough", "(Z)I"⟩ ⟨"DuelSamplesModel", "goesThrough", "(Z)I"⟩ ∈ TG := List.mem_filter.mpr ⟨List.mem_of_getElem? (i := 53) (by decide +kernel), rfl⟩
theorem wd_54 : Cond.selects "DuelSamplesModel" ⟨"DuelSamplesModel", "skip", "()V"⟩ ⟨"DuelSamplesModel", "skip", "()V"⟩ ∈ TG := List.mem_filter.mpr ⟨List.mem_of_getElem? (i := 54) (by decide +kernel), rfl⟩
theorem wd_55 : Cond.selects "DuelSamplesModel" ⟨"DuelSamplesModel", "reads", "(I)I"⟩ ⟨"DuelSamplesModel", "reads", "(I)I"⟩ ∈ TG := List.mem_filter.mpr ⟨List.mem_of_getElem? (i := 55) (by decide +kernel), rfl⟩
theorem wd_56 : Cond.selects "DuelSamplesModel" ⟨"DuelSamplesModel", "takesWord", "()I"⟩ ⟨"DuelSamplesModel", "takesWord", "()I"⟩ ∈ TG := List.mem_filter.mpr ⟨List.mem_of_getElem? (i := 56) (by decide +kernel), rfl⟩
theorem wd_57 : Cond.selects "DuelSamplesModel" ⟨"DuelSamplesModel", "isByte", "(III)Z"⟩ ⟨"DuelSamplesModel", "isByte", "(III)Z"⟩ ∈ TG := List.mem_filter.mpr ⟨List.mem_of_getElem? (i := 57) (by decide +kernel), rfl⟩
theorem wd_58 : Cond.selects "DuelSamplesModel" ⟨"DuelSamplesModel", "argsOf", "(I)I"⟩ ⟨"DuelSamplesModel", "argsOf", "(I)I"⟩ ∈ TG := List.mem_filter.mpr ⟨List.mem_of_getElem? (i := 58) (by decide +kernel), rfl⟩
theorem wd_59 : Cond.selects "DuelSamplesModel" ⟨"DuelSamplesModel", "mostAt", "(III)I"⟩ ⟨"DuelSamplesModel", "mostAt", "(III)I"⟩ ∈ TG := List.mem_filter.mpr ⟨List.mem_of_getElem? (i := 59) (by decide +kernel), rfl⟩
theorem wd_60 : Cond.selects "DuelSamplesModel" ⟨"DuelSamplesModel", "takesNumber", "(II)I"⟩ ⟨"DuelSamplesModel", "takesNumber", "(II)I"⟩ ∈ TG := List.mem_filter.mpr ⟨List.mem_of_getElem? (i := 60) (by decide +kernel), rfl⟩
theorem wd_61 : Cond.selects "DuelSamplesModel" ⟨"DuelSamplesModel", "tells", "(I)V"⟩ ⟨"DuelSamplesModel", "tells", "(I)V"⟩ ∈ TG := List.mem_filter.mpr ⟨List.mem_of_getElem? (i := 61) (by decide +kernel), rfl⟩
theorem wd_62 : Cond.selects "DuelSamplesModel" ⟨"DuelSamplesModel", "does", "(I)V"⟩ ⟨"DuelSamplesModel", "does", "(I)V"⟩ ∈ TG := List.mem_filter.mpr ⟨List.mem_of_getElem? (i := 62) (by decide +kernel), rfl⟩
theorem wd_63 : Cond.selects "DuelSamplesModel" ⟨"DuelSamplesModel", "tellsWord", "(I)V"⟩ ⟨"DuelSamplesModel", "tellsWord", "(I)V"⟩ ∈ TG := List.mem_filter.mpr ⟨List.mem_of_getElem? (i := 63) (by decide +kernel), rfl⟩
theorem wd_64 : Cond.selects "DuelSamplesModel" ⟨"DuelSamplesModel", "tellsNumber", "(I)V"⟩ ⟨"DuelSamplesModel", "tellsNumber", "(I)V"⟩ ∈ TG := List.mem_filter.mpr ⟨List.mem_of_getElem? (i := 64) (by decide +kernel), rfl⟩
theorem wd_65 : Cond.selects "DuelSamplesModel" ⟨"DuelSamplesModel", "tellsSample", "()V"⟩ ⟨"DuelSamplesModel", "tellsSample", "()V"⟩ ∈ TG := List.mem_filter.mpr ⟨List.mem_of_getElem? (i := 65) (by decide +kernel), rfl⟩
theorem wd_66 : Cond.selects "DuelSamplesModel" ⟨"DuelSamplesModel", "toldOf", "(I)I"⟩ ⟨"DuelSamplesModel", "toldOf", "(I)I"⟩ ∈ TG := List.mem_filter.mpr ⟨List.mem_of_getElem? (i := 66) (by decide +kernel), rfl⟩
theorem wd_67 : Cond.initialized "DuelSamplesLaw" ∈ TG := List.mem_filter.mpr ⟨List.mem_of_getElem? (i := 67) (by decide +kernel), rfl⟩
theorem wd_68 : Cond.initialized "DuelSamples" ∈ TG := List.mem_filter.mpr ⟨List.mem_of_getElem? (i := 68) (by decide +kernel), rfl⟩
theorem wd_69 : Cond.initialized "DuelSamples$Roster" ∈ TG := List.mem_filter.mpr ⟨List.mem_of_getElem? (i := 69) (by decide +kernel), rfl⟩
theorem wd_70 : Cond.initialized "DuelSamples$Course" ∈ TG := List.mem_filter.mpr ⟨List.mem_of_getElem? (i := 70) (by decide +kernel), rfl⟩
theorem wd_71 : Cond.initialized "DuelSamples$Reach" ∈ TG := List.mem_filter.mpr ⟨List.mem_of_getElem? (i := 71) (by decide +kernel), rfl⟩
theorem wd_72 : Cond.initialized "DuelSamples$Script" ∈ TG := List.mem_filter.mpr ⟨List.mem_of_getElem? (i := 72) (by decide +kernel), rfl⟩
theorem wd_73 : Cond.initialized "DuelSamples$Reply" ∈ TG := List.mem_filter.mpr ⟨List.mem_of_getElem? (i := 73) (by decide +kernel), rfl⟩
theorem wd_74 : Cond.initialized "DuelSamplesModel" ∈ TG := List.mem_filter.mpr ⟨List.mem_of_getElem? (i := 74) (by decide +kernel), rfl⟩
theorem wd_75 : Cond.initialized "java/lang/Math" ∈ TG := List.mem_filter.mpr ⟨List.mem_of_getElem? (i := 75) (by decide +kernel), rfl⟩
theorem wd_76 : Cond.initialized "java/lang/Integer" ∈ TG := List.mem_filter.mpr ⟨List.mem_of_getElem? (i := 76) (by decide +kernel), rfl⟩
theorem wd_77 : Cond.initialized "java/util/Arrays" ∈ TG := List.mem_filter.mpr ⟨List.mem_of_getElem? (i := 77) (by decide +kernel), rfl⟩
theorem wd_78 : Cond.initialized "java/lang/Long" ∈ TG := List.mem_filter.mpr ⟨List.mem_of_getElem? (i := 78) (by decide +kernel), rfl⟩
theorem wd_79 : Cond.initialized "java/lang/String" ∈ TG := List.mem_filter.mpr ⟨List.mem_of_getElem? (i := 79) (by decide +kernel), rfl⟩
theorem wd_80 : Cond.initialized "java/lang/StringLatin1" ∈ TG := List.mem_filter.mpr ⟨List.mem_of_getElem? (i := 80) (by decide +kernel), rfl⟩
theorem wd_81 : Cond.initialized "jdk/internal/util/Preconditions" ∈ TG := List.mem_filter.mpr ⟨List.mem_of_getElem? (i := 81) (by decide +kernel), rfl⟩
theorem wd_82 : Cond.initialized "java/lang/StringUTF16" ∈ TG := List.mem_filter.mpr ⟨List.mem_of_getElem? (i := 82) (by decide +kernel), rfl⟩
theorem wd_83 : Cond.classLink "DuelSamplesLaw" 7 "DuelSamples" ∈ TG := List.mem_filter.mpr ⟨List.mem_of_getElem? (i := 83) (by decide +kernel), rfl⟩
theorem wd_84 : Cond.instantiable "DuelSamples" 9 ∈ TG := List.mem_filter.mpr ⟨List.mem_of_getElem? (i := 84) (by decide +kernel), rfl⟩
theorem wd_85 : Cond.methodLink "DuelSamplesLaw" 9 ⟨"DuelSamples", "<init>", "()V"⟩ ∈ TG := List.mem_filter.mpr ⟨List.mem_of_getElem? (i := 85) (by decide +kernel), rfl⟩
theorem wd_86 : Cond.instanceMethod ⟨"DuelSamples", "<init>", "()V"⟩ ∈ TG := List.mem_filter.mpr ⟨List.mem_of_getElem? (i := 86) (by decide +kernel), rfl⟩
theorem wd_87 : Cond.code ⟨"DuelSamples", "<init>", "()V"⟩ prog_1_method_1_code 1 (Option.none : Option Jvm.ClassFile.FieldType) ∈ TG := List.mem_filter.mpr ⟨List.mem_of_getElem? (i := 87) (by decide +kernel), rfl⟩
theorem wd_88 : Cond.methodLink "DuelSamples" 1 ⟨"java/lang/Object", "<init>", "()V"⟩ ∈ TG := List.mem_filter.mpr ⟨List.mem_of_getElem? (i := 88) (by decide +kernel), rfl⟩
theorem wd_89 : Cond.instanceMethod ⟨"java/lang/Object", "<init>", "()V"⟩ ∈ TG := List.mem_filter.mpr ⟨List.mem_of_getElem? (i := 89) (by decide +kernel), rfl⟩
theorem wd_90 : Cond.code ⟨"java/lang/Object", "<init>", "()V"⟩ object_method_1_code 1 (Option.none : Option Jvm.ClassFile.FieldType) ∈ TG := List.mem_filter.mpr ⟨List.mem_of_getElem? (i := 90) (by decide +kernel), rfl⟩
theorem wd_91 : Cond.classLink "DuelSamples" 7 "DuelSamples$Roster" ∈ TG := List.mem_filter.mpr ⟨List.mem_of_getElem? (i := 91) (by decide +kernel), rfl⟩
theorem wd_92 : Cond.instantiable "DuelSamples$Roster" 3 ∈ TG := List.mem_filter.mpr ⟨List.mem_of_getElem? (i := 92) (by decide +kernel), rfl⟩
theorem wn_93 : Cond.methodLinkNest "DuelSamples" 9 ⟨"DuelSamples$Roster", "<init>", "()V"⟩ "DuelSamples" ∈ NW := List.mem_filter.mpr ⟨List.mem_of_getElem? (i := 93) (by decide +kernel), rfl⟩
theorem wd_94 : Cond.instanceMethod ⟨"DuelSamples$Roster", "<init>", "()V"⟩ ∈ TG := List.mem_filter.mpr ⟨List.mem_of_getElem? (i := 94) (by decide +kernel), rfl⟩
theorem wd_95 : Cond.code ⟨"DuelSamples$Roster", "<init>", "()V"⟩ prog_5_method_1_code 1 (Option.none : Option Jvm.ClassFile.FieldType) ∈ TG := List.mem_filter.mpr ⟨List.mem_of_getElem? (i := 95) (by decide +kernel), rfl⟩
theorem wd_96 : Cond.methodLink "DuelSamples$Roster" 3 ⟨"java/lang/Object", "<init>", "()V"⟩ ∈ TG := List.mem_filter.mpr ⟨List.mem_of_getElem? (i := 96) (by decide +kernel), rfl⟩
theorem wd_97 : Cond.classLink "DuelSamples$Roster" 9 "[[I" ∈ TG := List.mem_filter.mpr ⟨List.mem_of_getElem? (i := 97) (by decide +kernel), rfl⟩
theorem wd_99 : Cond.fieldLink "DuelSamples$Roster" 11 "DuelSamples$Roster" "facts" "[[I" ∈ TG := List.mem_filter.mpr ⟨List.mem_of_getElem? (i := 99) (by decide +kernel), rfl⟩
theorem wn_100 : Cond.fieldLinkNest "DuelSamples" 55 "DuelSamples$Roster" "count" "I" "DuelSamples" ∈ NW := List.mem_filter.mpr ⟨List.mem_of_getElem? (i := 100) (by decide +kernel), rfl⟩
theorem wd_101 : Cond.fieldLink "DuelSamples$Roster" 20 "DuelSamples$Roster" "count" "I" ∈ TG := List.mem_filter.mpr ⟨List.mem_of_getElem? (i := 101) (by decide +kernel), rfl⟩
theorem wn_102 : Cond.fieldLinkNest "DuelSamples$Reach" 22 "DuelSamples$Roster" "changes" "I" "DuelSamples" ∈ NW := List.mem_filter.mpr ⟨List.mem_of_getElem? (i := 102) (by decide +kernel), rfl⟩
theorem wd_103 : Cond.fieldLink "DuelSamples$Roster" 28 "DuelSamples$Roster" "changes" "I" ∈ TG := List.mem_filter.mpr ⟨List.mem_of_getElem? (i := 103) (by decide +kernel), rfl⟩
theorem wd_111 : Cond.arrayClass .int ∈ TG := List.mem_filter.mpr ⟨List.mem_of_getElem? (i := 111) (by decide +kernel), rfl⟩
theorem wd_112 : Cond.classLink "DuelSamples" 16 "DuelSamples$Course" ∈ TG := List.mem_filter.mpr ⟨List.mem_of_getElem? (i := 112) (by decide +kernel), rfl⟩
theorem wd_113 : Cond.instantiable "DuelSamples$Course" 10 ∈ TG := List.mem_filter.mpr ⟨List.mem_of_getElem? (i := 113) (by decide +kernel), rfl⟩
theorem wn_114 : Cond.methodLinkNest "DuelSamples" 18 ⟨"DuelSamples$Course", "<init>", "()V"⟩ "DuelSamples" ∈ NW := List.mem_filter.mpr ⟨List.mem_of_getElem? (i := 114) (by decide +kernel), rfl⟩
theorem wd_115 : Cond.instanceMethod ⟨"DuelSamples$Course", "<init>", "()V"⟩ ∈ TG := List.mem_filter.mpr ⟨List.mem_of_getElem? (i := 115) (by decide +kernel), rfl⟩
theorem wd_116 : Cond.code ⟨"DuelSamples$Course", "<init>", "()V"⟩ prog_2_method_1_code 1 (Option.none : Option Jvm.ClassFile.FieldType) ∈ TG := List.mem_filter.mpr ⟨List.mem_of_getElem? (i := 116) (by decide +kernel), rfl⟩
theorem wd_117 : Cond.methodLink "DuelSamples$Course" 3 ⟨"java/lang/Object", "<init>", "()V"⟩ ∈ TG := List.mem_filter.mpr ⟨List.mem_of_getElem? (i := 117) (by decide +kernel), rfl⟩
theorem wd_118 : Cond.fieldLink "DuelSamples$Course" 9 "DuelSamples$Course" "left" "[I" ∈ TG := List.mem_filter.mpr ⟨List.mem_of_getElem? (i := 118) (by decide +kernel), rfl⟩
theorem wd_119 : Cond.fieldLink "DuelSamples$Course" 15 "DuelSamples$Course" "firsts" "[I" ∈ TG := List.mem_filter.mpr ⟨List.mem_of_getElem? (i := 119) (by decide +kernel), rfl⟩
theorem wd_120 : Cond.fieldLink "DuelSamples$Course" 18 "DuelSamples$Course" "seconds" "[I" ∈ TG := List.mem_filter.mpr ⟨List.mem_of_getElem? (i := 120) (by decide +kernel), rfl⟩
theorem wd_121 : Cond.fieldLink "DuelSamples$Course" 21 "DuelSamples$Course" "winners" "[I" ∈ TG := List.mem_filter.mpr ⟨List.mem_of_getElem? (i := 121) (by decide +kernel), rfl⟩
theorem wd_122 : Cond.fieldLink "DuelSamples$Course" 58 "DuelSamples$Course" "sample" "I" ∈ TG := List.mem_filter.mpr ⟨List.mem_of_getElem? (i := 122) (by decide +kernel), rfl⟩
theorem wn_123 : Cond.fieldLinkNest "DuelSamples" 121 "DuelSamples$Course" "sample" "I" "DuelSamples" ∈ NW := List.mem_filter.mpr ⟨List.mem_of_getElem? (i := 123) (by decide +kernel), rfl⟩
theorem wd_124 : Cond.fieldLink "DuelSamples$Course" 62 "DuelSamples$Course" "plays" "I" ∈ TG := List.mem_filter.mpr ⟨List.mem_of_getElem? (i := 124) (by decide +kernel), rfl⟩
theorem wd_125 : Cond.fieldLink "DuelSamples$Course" 65 "DuelSamples$Course" "small" "I" ∈ TG := List.mem_filter.mpr ⟨List.mem_of_getElem? (i := 125) (by decide +kernel), rfl⟩
theorem wd_126 : Cond.fieldLink "DuelSamples$Course" 68 "DuelSamples$Course" "large" "I" ∈ TG := List.mem_filter.mpr ⟨List.mem_of_getElem? (i := 126) (by decide +kernel), rfl⟩
theorem wn_127 : Cond.fieldLinkNest "DuelSamples$Reach" 55 "DuelSamples$Course" "u" "I" "DuelSamples" ∈ NW := List.mem_filter.mpr ⟨List.mem_of_getElem? (i := 127) (by decide +kernel), rfl⟩
theorem wd_128 : Cond.fieldLink "DuelSamples$Course" 85 "DuelSamples$Course" "u" "I" ∈ TG := List.mem_filter.mpr ⟨List.mem_of_getElem? (i := 128) (by decide +kernel), rfl⟩
theorem wn_129 : Cond.fieldLinkNest "DuelSamples$Reach" 58 "DuelSamples$Course" "v" "I" "DuelSamples" ∈ NW := List.mem_filter.mpr ⟨List.mem_of_getElem? (i := 129) (by decide +kernel), rfl⟩
theorem wd_130 : Cond.fieldLink "DuelSamples$Course" 88 "DuelSamples$Course" "v" "I" ∈ TG := List.mem_filter.mpr ⟨List.mem_of_getElem? (i := 130) (by decide +kernel), rfl⟩
theorem wd_152 : Cond.classLink "DuelSamples" 26 "DuelSamples$Reach" ∈ TG := List.mem_filter.mpr ⟨List.mem_of_getElem? (i := 152) (by decide +kernel), rfl⟩
theorem wd_153 : Cond.instantiable "DuelSamples$Reach" 3 ∈ TG := List.mem_filter.mpr ⟨List.mem_of_getElem? (i := 153) (by decide +kernel), rfl⟩
theorem wn_154 : Cond.methodLinkNest "DuelSamples" 28 ⟨"DuelSamples$Reach", "<init>", "()V"⟩ "DuelSamples" ∈ NW := List.mem_filter.mpr ⟨List.mem_of_getElem? (i := 154) (by decide +kernel), rfl⟩
theorem wd_155 : Cond.instanceMethod ⟨"DuelSamples$Reach", "<init>", "()V"⟩ ∈ TG := List.mem_filter.mpr ⟨List.mem_of_getElem? (i := 155) (by decide +kernel), rfl⟩
theorem wd_156 : Cond.code ⟨"DuelSamples$Reach", "<init>", "()V"⟩ prog_3_method_1_code 1 (Option.none : Option Jvm.ClassFile.FieldType) ∈ TG := List.mem_filter.mpr ⟨List.mem_of_getElem? (i := 156) (by decide +kernel), rfl⟩
theorem wd_157 : Cond.methodLink "DuelSamples$Reach" 3 ⟨"java/lang/Object", "<init>", "()V"⟩ ∈ TG := List.mem_filter.mpr ⟨List.mem_of_getElem? (i := 157) (by decide +kernel), rfl⟩
theorem wd_158 : Cond.fieldLink "DuelSamples$Reach" 11 "DuelSamples$Reach" "seen" "[J" ∈ TG := List.mem_filter.mpr ⟨List.mem_of_getElem? (i := 158) (by decide +kernel), rfl⟩
theorem wd_159 : Cond.fieldLink "DuelSamples$Reach" 15 "DuelSamples$Reach" "atChanges" "I" ∈ TG := List.mem_filter.mpr ⟨List.mem_of_getElem? (i := 159) (by decide +kernel), rfl⟩
theorem wd_160 : Cond.fieldLink "DuelSamples$Reach" 19 "DuelSamples$Reach" "atMethod" "I" ∈ TG := List.mem_filter.mpr ⟨List.mem_of_getElem? (i := 160) (by decide +kernel), rfl⟩
theorem wd_168 : Cond.arrayClass .long ∈ TG := List.mem_filter.mpr ⟨List.mem_of_getElem? (i := 168) (by decide +kernel), rfl⟩
theorem wd_169 : Cond.classLink "DuelSamples" 33 "DuelSamples$Script" ∈ TG := List.mem_filter.mpr ⟨List.mem_of_getElem? (i := 169) (by decide +kernel), rfl⟩
theorem wd_170 : Cond.instantiable "DuelSamples$Script" 7 ∈ TG := List.mem_filter.mpr ⟨List.mem_of_getElem? (i := 170) (by decide +kernel), rfl⟩
theorem wn_171 : Cond.methodLinkNest "DuelSamples" 35 ⟨"DuelSamples$Script", "<init>", "()V"⟩ "DuelSamples" ∈ NW := List.mem_filter.mpr ⟨List.mem_of_getElem? (i := 171) (by decide +kernel), rfl⟩
theorem wd_172 : Cond.instanceMethod ⟨"DuelSamples$Script", "<init>", "()V"⟩ ∈ TG := List.mem_filter.mpr ⟨List.mem_of_getElem? (i := 172) (by decide +kernel), rfl⟩
theorem wd_173 : Cond.code ⟨"DuelSamples$Script", "<init>", "()V"⟩ prog_6_method_1_code 1 (Option.none : Option Jvm.ClassFile.FieldType) ∈ TG := List.mem_filter.mpr ⟨List.mem_of_getElem? (i := 173) (by decide +kernel), rfl⟩
theorem wd_174 : Cond.methodLink "DuelSamples$Script" 5 ⟨"java/lang/Object", "<init>", "()V"⟩ ∈ TG := List.mem_filter.mpr ⟨List.mem_of_getElem? (i := 174) (by decide +kernel), rfl⟩
theorem wd_175 : Cond.fieldLink "DuelSamples$Script" 11 "DuelSamples$Script" "text" "[B" ∈ TG := List.mem_filter.mpr ⟨List.mem_of_getElem? (i := 175) (by decide +kernel), rfl⟩
theorem wd_176 : Cond.fieldLink "DuelSamples$Script" 15 "DuelSamples$Script" "verbs" "[I" ∈ TG := List.mem_filter.mpr ⟨List.mem_of_getElem? (i := 176) (by decide +kernel), rfl⟩
theorem wd_177 : Cond.fieldLink "DuelSamples$Script" 19 "DuelSamples$Script" "numbers" "[I" ∈ TG := List.mem_filter.mpr ⟨List.mem_of_getElem? (i := 177) (by decide +kernel), rfl⟩
theorem wd_178 : Cond.fieldLink "DuelSamples$Script" 50 "DuelSamples$Script" "length" "I" ∈ TG := List.mem_filter.mpr ⟨List.mem_of_getElem? (i := 178) (by decide +kernel), rfl⟩
theorem wn_179 : Cond.fieldLinkNest "DuelSamples" 185 "DuelSamples$Script" "length" "I" "DuelSamples" ∈ NW := List.mem_filter.mpr ⟨List.mem_of_getElem? (i := 179) (by decide +kernel), rfl⟩
theorem wd_180 : Cond.fieldLink "DuelSamples$Script" 54 "DuelSamples$Script" "sentences" "I" ∈ TG := List.mem_filter.mpr ⟨List.mem_of_getElem? (i := 180) (by decide +kernel), rfl⟩
theorem wn_181 : Cond.fieldLinkNest "DuelSamples" 194 "DuelSamples$Script" "sentences" "I" "DuelSamples" ∈ NW := List.mem_filter.mpr ⟨List.mem_of_getElem? (i := 181) (by decide +kernel), rfl⟩
theorem wd_182 : Cond.fieldLink "DuelSamples$Script" 60 "DuelSamples$Script" "at" "I" ∈ TG := List.mem_filter.mpr ⟨List.mem_of_getElem? (i := 182) (by decide +kernel), rfl⟩
theorem wd_183 : Cond.fieldLink "DuelSamples$Script" 57 "DuelSamples$Script" "units" "I" ∈ TG := List.mem_filter.mpr ⟨List.mem_of_getElem? (i := 183) (by decide +kernel), rfl⟩
theorem wd_199 : Cond.arrayClass .byte ∈ TG := List.mem_filter.mpr ⟨List.mem_of_getElem? (i := 199) (by decide +kernel), rfl⟩
theorem wd_200 : Cond.classLink "DuelSamples" 40 "DuelSamples$Reply" ∈ TG := List.mem_filter.mpr ⟨List.mem_of_getElem? (i := 200) (by decide +kernel), rfl⟩
theorem wd_201 : Cond.instantiable "DuelSamples$Reply" 2 ∈ TG := List.mem_filter.mpr ⟨List.mem_of_getElem? (i := 201) (by decide +kernel), rfl⟩
theorem wn_202 : Cond.methodLinkNest "DuelSamples" 42 ⟨"DuelSamples$Reply", "<init>", "()V"⟩ "DuelSamples" ∈ NW := List.mem_filter.mpr ⟨List.mem_of_getElem? (i := 202) (by decide +kernel), rfl⟩
theorem wd_203 : Cond.instanceMethod ⟨"DuelSamples$Reply", "<init>", "()V"⟩ ∈ TG := List.mem_filter.mpr ⟨List.mem_of_getElem? (i := 203) (by decide +kernel), rfl⟩
theorem wd_204 : Cond.code ⟨"DuelSamples$Reply", "<init>", "()V"⟩ prog_4_method_1_code 1 (Option.none : Option Jvm.ClassFile.FieldType) ∈ TG := List.mem_filter.mpr ⟨List.mem_of_getElem? (i := 204) (by decide +kernel), rfl⟩
theorem wd_205 : Cond.methodLink "DuelSamples$Reply" 3 ⟨"java/lang/Object", "<init>", "()V"⟩ ∈ TG := List.mem_filter.mpr ⟨List.mem_of_getElem? (i := 205) (by decide +kernel), rfl⟩
theorem wd_206 : Cond.fieldLink "DuelSamples$Reply" 11 "DuelSamples$Reply" "signs" "[B" ∈ TG := List.mem_filter.mpr ⟨List.mem_of_getElem? (i := 206) (by decide +kernel), rfl⟩
theorem wd_207 : Cond.fieldLink "DuelSamples$Reply" 15 "DuelSamples$Reply" "length" "I" ∈ TG := List.mem_filter.mpr ⟨List.mem_of_getElem? (i := 207) (by decide +kernel), rfl⟩
theorem wn_208 : Cond.fieldLinkNest "DuelSamples" 193 "DuelSamples$Reply" "length" "I" "DuelSamples" ∈ NW := List.mem_filter.mpr ⟨List.mem_of_getElem? (i := 208) (by decide +kernel), rfl⟩
theorem wd_214 : Cond.fieldLink "DuelSamples" 10 "DuelSamples" "roster" "LDuelSamples$Roster;" ∈ TG := List.mem_filter.mpr ⟨List.mem_of_getElem? (i := 214) (by decide +kernel), rfl⟩
theorem wd_215 : Cond.fieldLink "DuelSamples" 19 "DuelSamples" "last" "LDuelSamples$Course;" ∈ TG := List.mem_filter.mpr ⟨List.mem_of_getElem? (i := 215) (by decide +kernel), rfl⟩
theorem wd_216 : Cond.fieldLink "DuelSamples" 23 "DuelSamples" "trial" "LDuelSamples$Course;" ∈ TG := List.mem_filter.mpr ⟨List.mem_of_getElem? (i := 216) (by decide +kernel), rfl⟩
theorem wd_217 : Cond.fieldLink "DuelSamples" 29 "DuelSamples" "reach" "LDuelSamples$Reach;" ∈ TG := List.mem_filter.mpr ⟨List.mem_of_getElem? (i := 217) (by decide +kernel), rfl⟩
theorem wd_218 : Cond.fieldLink "DuelSamples" 36 "DuelSamples" "script" "LDuelSamples$Script;" ∈ TG := List.mem_filter.mpr ⟨List.mem_of_getElem? (i := 218) (by decide +kernel), rfl⟩
theorem wd_219 : Cond.fieldLink "DuelSamples" 43 "DuelSamples" "reply" "LDuelSamples$Reply;" ∈ TG := List.mem_filter.mpr ⟨List.mem_of_getElem? (i := 219) (by decide +kernel), rfl⟩
theorem wd_220 : Cond.fieldLink "DuelSamples" 114 "DuelSamples" "method" "I" ∈ TG := List.mem_filter.mpr ⟨List.mem_of_getElem? (i := 220) (by decide +kernel), rfl⟩
theorem wd_221 : Cond.fieldLink "DuelSamples" 214 "DuelSamples" "refusedBad" "I" ∈ TG := List.mem_filter.mpr ⟨List.mem_of_getElem? (i := 221) (by decide +kernel), rfl⟩
theorem wd_222 : Cond.fieldLink "DuelSamples" 217 "DuelSamples" "refusedFull" "I" ∈ TG := List.mem_filter.mpr ⟨List.mem_of_getElem? (i := 222) (by decide +kernel), rfl⟩
theorem wd_242 : Cond.methodLink "DuelSamplesLaw" 13 ⟨"DuelSamples", "unit", "(IIIII)I"⟩ ∈ TG := List.mem_filter.mpr ⟨List.mem_of_getElem? (i := 242) (by decide +kernel), rfl⟩
theorem wd_243 : Cond.instanceMethod ⟨"DuelSamples", "unit", "(IIIII)I"⟩ ∈ TG := List.mem_filter.mpr ⟨List.mem_of_getElem? (i := 243) (by decide +kernel), rfl⟩
theorem wd_244 : Cond.selects "DuelSamples" ⟨"DuelSamples", "unit", "(IIIII)I"⟩ ⟨"DuelSamples", "unit", "(IIIII)I"⟩ ∈ TG := List.mem_filter.mpr ⟨List.mem_of_getElem? (i := 244) (by decide +kernel), rfl⟩
theorem wd_245 : Cond.code ⟨"DuelSamples", "unit", "(IIIII)I"⟩ prog_1_method_2_code 7 (Option.some Jvm.ClassFile.FieldType.int) ∈ TG := List.mem_filter.mpr ⟨List.mem_of_getElem? (i := 245) (by decide +kernel), rfl⟩
theorem wd_246 : Cond.methodLink "DuelSamples" 47 ⟨"DuelSamples$Roster", "fits", "(II)Z"⟩ ∈ TG := List.mem_filter.mpr ⟨List.mem_of_getElem? (i := 246) (by decide +kernel), rfl⟩
theorem wd_247 : Cond.static ⟨"DuelSamples$Roster", "fits", "(II)Z"⟩ ∈ TG := List.mem_filter.mpr ⟨List.mem_of_getElem? (i := 247) (by decide +kernel), rfl⟩
theorem wd_248 : Cond.code ⟨"DuelSamples$Roster", "fits", "(II)Z"⟩ prog_5_method_2_code 2 (Option.some Jvm.ClassFile.FieldType.boolean) ∈ TG := List.mem_filter.mpr ⟨List.mem_of_getElem? (i := 248) (by decide +kernel), rfl⟩
theorem wd_249 : Cond.fieldLink "DuelSamples$Roster" 16 "DuelSamples$Roster" "MOST" "[I" ∈ TG := List.mem_filter.mpr ⟨List.mem_of_getElem? (i := 249) (by decide +kernel), rfl⟩
theorem wd_251 : Cond.methodLink "DuelSamples" 51 ⟨"DuelSamples", "refuse", "(I)I"⟩ ∈ TG := List.mem_filter.mpr ⟨List.mem_of_getElem? (i := 251) (by decide +kernel), rfl⟩
theorem wd_253 : Cond.instanceMethod ⟨"DuelSamples", "refuse", "(I)I"⟩ ∈ TG := List.mem_filter.mpr ⟨List.mem_of_getElem? (i := 253) (by decide +kernel), rfl⟩
theorem wd_254 : Cond.code ⟨"DuelSamples", "refuse", "(I)I"⟩ prog_1_method_28_code 2 (Option.some Jvm.ClassFile.FieldType.int) ∈ TG := List.mem_filter.mpr ⟨List.mem_of_getElem? (i := 254) (by decide +kernel), rfl⟩
theorem wd_255 : Cond.methodLink "DuelSamples" 59 ⟨"DuelSamples$Roster", "append", "(IIIII)I"⟩ ∈ TG := List.mem_filter.mpr ⟨List.mem_of_getElem? (i := 255) (by decide +kernel), rfl⟩
theorem wd_256 : Cond.instanceMethod ⟨"DuelSamples$Roster", "append", "(IIIII)I"⟩ ∈ TG := List.mem_filter.mpr ⟨List.mem_of_getElem? (i := 256) (by decide +kernel), rfl⟩
theorem wd_257 : Cond.selects "DuelSamples$Roster" ⟨"DuelSamples$Roster", "append", "(IIIII)I"⟩ ⟨"DuelSamples$Roster", "append", "(IIIII)I"⟩ ∈ TG := List.mem_filter.mpr ⟨List.mem_of_getElem? (i := 257) (by decide +kernel), rfl⟩
theorem wd_258 : Cond.code ⟨"DuelSamples$Roster", "append", "(IIIII)I"⟩ prog_5_method_6_code 6 (Option.some Jvm.ClassFile.FieldType.int) ∈ TG := List.mem_filter.mpr ⟨List.mem_of_getElem? (i := 258) (by decide +kernel), rfl⟩
theorem wd_259 : Cond.methodLink "DuelSamplesLaw" 18 ⟨"DuelSamples", "sets", "(III)I"⟩ ∈ TG := List.mem_filter.mpr ⟨List.mem_of_getElem? (i := 259) (by decide +kernel), rfl⟩
theorem wd_260 : Cond.instanceMethod ⟨"DuelSamples", "sets", "(III)I"⟩ ∈ TG := List.mem_filter.mpr ⟨List.mem_of_getElem? (i := 260) (by decide +kernel), rfl⟩
theorem wd_261 : Cond.selects "DuelSamples" ⟨"DuelSamples", "sets", "(III)I"⟩ ⟨"DuelSamples", "sets", "(III)I"⟩ ∈ TG := List.mem_filter.mpr ⟨List.mem_of_getElem? (i := 261) (by decide +kernel), rfl⟩
theorem wd_262 : Cond.code ⟨"DuelSamples", "sets", "(III)I"⟩ prog_1_method_3_code 4 (Option.some Jvm.ClassFile.FieldType.int) ∈ TG := List.mem_filter.mpr ⟨List.mem_of_getElem? (i := 262) (by decide +kernel), rfl⟩
theorem wd_263 : Cond.methodLink "DuelSamples" 63 ⟨"DuelSamples$Roster", "has", "(I)Z"⟩ ∈ TG := List.mem_filter.mpr ⟨List.mem_of_getElem? (i := 263) (by decide +kernel), rfl⟩
theorem wd_264 : Cond.instanceMethod ⟨"DuelSamples$Roster", "has", "(I)Z"⟩ ∈ TG := List.mem_filter.mpr ⟨List.mem_of_getElem? (i := 264) (by decide +kernel), rfl⟩
theorem wd_265 : Cond.selects "DuelSamples$Roster" ⟨"DuelSamples$Roster", "has", "(I)Z"⟩ ⟨"DuelSamples$Roster", "has", "(I)Z"⟩ ∈ TG := List.mem_filter.mpr ⟨List.mem_of_getElem? (i := 265) (by decide +kernel), rfl⟩
theorem wd_266 : Cond.code ⟨"DuelSamples$Roster", "has", "(I)Z"⟩ prog_5_method_3_code 2 (Option.some Jvm.ClassFile.FieldType.boolean) ∈ TG := List.mem_filter.mpr ⟨List.mem_of_getElem? (i := 266) (by decide +kernel), rfl⟩
theorem wd_267 : Cond.methodLink "DuelSamples" 67 ⟨"DuelSamples$Roster", "change", "(III)I"⟩ ∈ TG := List.mem_filter.mpr ⟨List.mem_of_getElem? (i := 267) (by decide +kernel), rfl⟩
theorem wd_268 : Cond.instanceMethod ⟨"DuelSamples$Roster", "change", "(III)I"⟩ ∈ TG := List.mem_filter.mpr ⟨List.mem_of_getElem? (i := 268) (by decide +kernel), rfl⟩
theorem wd_269 : Cond.selects "DuelSamples$Roster" ⟨"DuelSamples$Roster", "change", "(III)I"⟩ ⟨"DuelSamples$Roster", "change", "(III)I"⟩ ∈ TG := List.mem_filter.mpr ⟨List.mem_of_getElem? (i := 269) (by decide +kernel), rfl⟩
theorem wd_270 : Cond.code ⟨"DuelSamples$Roster", "change", "(III)I"⟩ prog_5_method_5_code 5 (Option.some Jvm.ClassFile.FieldType.int) ∈ TG := List.mem_filter.mpr ⟨List.mem_of_getElem? (i := 270) (by decide +kernel), rfl⟩
theorem wd_271 : Cond.methodLink "DuelSamples$Roster" 24 ⟨"DuelSamples$Roster", "has", "(I)Z"⟩ ∈ TG := List.mem_filter.mpr ⟨List.mem_of_getElem? (i := 271) (by decide +kernel), rfl⟩
theorem wd_272 : Cond.methodLink "DuelSamplesLaw" 23 ⟨"DuelSamples", "empties", "()I"⟩ ∈ TG := List.mem_filter.mpr ⟨List.mem_of_getElem? (i := 272) (by decide +kernel), rfl⟩
theorem wd_273 : Cond.instanceMethod ⟨"DuelSamples", "empties", "()I"⟩ ∈ TG := List.mem_filter.mpr ⟨List.mem_of_getElem? (i := 273) (by decide +kernel), rfl⟩
theorem wd_274 : Cond.selects "DuelSamples" ⟨"DuelSamples", "empties", "()I"⟩ ⟨"DuelSamples", "empties", "()I"⟩ ∈ TG := List.mem_filter.mpr ⟨List.mem_of_getElem? (i := 274) (by decide +kernel), rfl⟩
theorem wd_275 : Cond.code ⟨"DuelSamples", "empties", "()I"⟩ prog_1_method_4_code 2 (Option.some Jvm.ClassFile.FieldType.int) ∈ TG := List.mem_filter.mpr ⟨List.mem_of_getElem? (i := 275) (by decide +kernel), rfl⟩
theorem wd_276 : Cond.methodLink "DuelSamples" 71 ⟨"DuelSamples$Roster", "removeAll", "()V"⟩ ∈ TG := List.mem_filter.mpr ⟨List.mem_of_getElem? (i := 276) (by decide +kernel), rfl⟩
theorem wd_277 : Cond.instanceMethod ⟨"DuelSamples$Roster", "removeAll", "()V"⟩ ∈ TG := List.mem_filter.mpr ⟨List.mem_of_getElem? (i := 277) (by decide +kernel), rfl⟩
theorem wd_278 : Cond.selects "DuelSamples$Roster" ⟨"DuelSamples$Roster", "removeAll", "()V"⟩ ⟨"DuelSamples$Roster", "removeAll", "()V"⟩ ∈ TG := List.mem_filter.mpr ⟨List.mem_of_getElem? (i := 278) (by decide +kernel), rfl⟩
theorem wd_279 : Cond.code ⟨"DuelSamples$Roster", "removeAll", "()V"⟩ prog_5_method_7_code 1 (Option.none : Option Jvm.ClassFile.FieldType) ∈ TG := List.mem_filter.mpr ⟨List.mem_of_getElem? (i := 279) (by decide +kernel), rfl⟩
theorem wd_280 : Cond.methodLink "DuelSamples" 74 ⟨"DuelSamples$Course", "forget", "()V"⟩ ∈ TG := List.mem_filter.mpr ⟨List.mem_of_getElem? (i := 280) (by decide +kernel), rfl⟩
theorem wd_281 : Cond.instanceMethod ⟨"DuelSamples$Course", "forget", "()V"⟩ ∈ TG := List.mem_filter.mpr ⟨List.mem_of_getElem? (i := 281) (by decide +kernel), rfl⟩
theorem wd_282 : Cond.selects "DuelSamples$Course" ⟨"DuelSamples$Course", "forget", "()V"⟩ ⟨"DuelSamples$Course", "forget", "()V"⟩ ∈ TG := List.mem_filter.mpr ⟨List.mem_of_getElem? (i := 282) (by decide +kernel), rfl⟩
theorem wd_283 : Cond.code ⟨"DuelSamples$Course", "forget", "()V"⟩ prog_2_method_3_code 1 (Option.none : Option Jvm.ClassFile.FieldType) ∈ TG := List.mem_filter.mpr ⟨List.mem_of_getElem? (i := 283) (by decide +kernel), rfl⟩
theorem wd_284 : Cond.methodLink "DuelSamplesLaw" 28 ⟨"DuelSamples", "draw", "(II)I"⟩ ∈ TG := List.mem_filter.mpr ⟨List.mem_of_getElem? (i := 284) (by decide +kernel), rfl⟩
theorem wd_285 : Cond.instanceMethod ⟨"DuelSamples", "draw", "(II)I"⟩ ∈ TG := List.mem_filter.mpr ⟨List.mem_of_getElem? (i := 285) (by decide +kernel), rfl⟩
theorem wd_286 : Cond.selects "DuelSamples" ⟨"DuelSamples", "draw", "(II)I"⟩ ⟨"DuelSamples", "draw", "(II)I"⟩ ∈ TG := List.mem_filter.mpr ⟨List.mem_of_getElem? (i := 286) (by decide +kernel), rfl⟩
theorem wd_287 : Cond.code ⟨"DuelSamples", "draw", "(II)I"⟩ prog_1_method_5_code 6 (Option.some Jvm.ClassFile.FieldType.int) ∈ TG := List.mem_filter.mpr ⟨List.mem_of_getElem? (i := 287) (by decide +kernel), rfl⟩
theorem wd_288 : Cond.methodLink "DuelSamples" 77 ⟨"DuelSamples", "isSeed", "(I)Z"⟩ ∈ TG := List.mem_filter.mpr ⟨List.mem_of_getElem? (i := 288) (by decide +kernel), rfl⟩
theorem wd_289 : Cond.static ⟨"DuelSamples", "isSeed", "(I)Z"⟩ ∈ TG := List.mem_filter.mpr ⟨List.mem_of_getElem? (i := 289) (by decide +kernel), rfl⟩
theorem wd_290 : Cond.code ⟨"DuelSamples", "isSeed", "(I)Z"⟩ prog_1_method_29_code 1 (Option.some Jvm.ClassFile.FieldType.boolean) ∈ TG := List.mem_filter.mpr ⟨List.mem_of_getElem? (i := 290) (by decide +kernel), rfl⟩
theorem wd_291 : Cond.constant "DuelSamples" 220 (999999) ∈ TG := List.mem_filter.mpr ⟨List.mem_of_getElem? (i := 291) (by decide +kernel), rfl⟩
theorem wd_292 : Cond.methodLink "DuelSamples" 80 ⟨"DuelSamples", "nextX", "(J)J"⟩ ∈ TG := List.mem_filter.mpr ⟨List.mem_of_getElem? (i := 292) (by decide +kernel), rfl⟩
theorem wd_293 : Cond.static ⟨"DuelSamples", "nextX", "(J)J"⟩ ∈ TG := List.mem_filter.mpr ⟨List.mem_of_getElem? (i := 293) (by decide +kernel), rfl⟩
theorem wd_294 : Cond.code ⟨"DuelSamples", "nextX", "(J)J"⟩ prog_1_method_31_code 2 (Option.some Jvm.ClassFile.FieldType.long) ∈ TG := List.mem_filter.mpr ⟨List.mem_of_getElem? (i := 294) (by decide +kernel), rfl⟩
theorem wd_295 : Cond.constantLong "DuelSamples" 222 (1103515245) ∈ TG := List.mem_filter.mpr ⟨List.mem_of_getElem? (i := 295) (by decide +kernel), rfl⟩
theorem wd_296 : Cond.constantLong "DuelSamples" 224 (12345) ∈ TG := List.mem_filter.mpr ⟨List.mem_of_getElem? (i := 296) (by decide +kernel), rfl⟩
theorem wd_297 : Cond.constantLong "DuelSamples" 226 (2147483648) ∈ TG := List.mem_filter.mpr ⟨List.mem_of_getElem? (i := 297) (by decide +kernel), rfl⟩
theorem wd_298 : Cond.constantLong "DuelSamples" 84 (65536) ∈ TG := List.mem_filter.mpr ⟨List.mem_of_getElem? (i := 298) (by decide +kernel), rfl⟩
theorem wd_299 : Cond.constantLong "DuelSamples" 86 (13) ∈ TG := List.mem_filter.mpr ⟨List.mem_of_getElem? (i := 299) (by decide +kernel), rfl⟩
theorem wd_300 : Cond.constantLong "DuelSamples" 88 (1024) ∈ TG := List.mem_filter.mpr ⟨List.mem_of_getElem? (i := 300) (by decide +kernel), rfl⟩
theorem wd_301 : Cond.constantLong "DuelSamples" 90 (100) ∈ TG := List.mem_filter.mpr ⟨List.mem_of_getElem? (i := 301) (by decide +kernel), rfl⟩
theorem wd_302 : Cond.constantLong "DuelSamples" 92 (32768) ∈ TG := List.mem_filter.mpr ⟨List.mem_of_getElem? (i := 302) (by decide +kernel), rfl⟩
theorem wd_303 : Cond.constantLong "DuelSamples" 94 (4) ∈ TG := List.mem_filter.mpr ⟨List.mem_of_getElem? (i := 303) (by decide +kernel), rfl⟩
theorem wd_304 : Cond.constantLong "DuelSamples" 96 (4096) ∈ TG := List.mem_filter.mpr ⟨List.mem_of_getElem? (i := 304) (by decide +kernel), rfl⟩
theorem wd_305 : Cond.constantLong "DuelSamples" 98 (512) ∈ TG := List.mem_filter.mpr ⟨List.mem_of_getElem? (i := 305) (by decide +kernel), rfl⟩
theorem wd_306 : Cond.methodLink "DuelSamples" 100 ⟨"DuelSamples$Roster", "sum", "(I)I"⟩ ∈ TG := List.mem_filter.mpr ⟨List.mem_of_getElem? (i := 306) (by decide +kernel), rfl⟩
theorem wd_307 : Cond.instanceMethod ⟨"DuelSamples$Roster", "sum", "(I)I"⟩ ∈ TG := List.mem_filter.mpr ⟨List.mem_of_getElem? (i := 307) (by decide +kernel), rfl⟩
theorem wd_308 : Cond.selects "DuelSamples$Roster" ⟨"DuelSamples$Roster", "sum", "(I)I"⟩ ⟨"DuelSamples$Roster", "sum", "(I)I"⟩ ∈ TG := List.mem_filter.mpr ⟨List.mem_of_getElem? (i := 308) (by decide +kernel), rfl⟩
theorem wd_309 : Cond.code ⟨"DuelSamples$Roster", "sum", "(I)I"⟩ prog_5_method_9_code 4 (Option.some Jvm.ClassFile.FieldType.int) ∈ TG := List.mem_filter.mpr ⟨List.mem_of_getElem? (i := 309) (by decide +kernel), rfl⟩
theorem wd_310 : Cond.methodLink "DuelSamples$Roster" 31 ⟨"DuelSamples$Roster", "fact", "(II)I"⟩ ∈ TG := List.mem_filter.mpr ⟨List.mem_of_getElem? (i := 310) (by decide +kernel), rfl⟩
theorem wd_311 : Cond.instanceMethod ⟨"DuelSamples$Roster", "fact", "(II)I"⟩ ∈ TG := List.mem_filter.mpr ⟨List.mem_of_getElem? (i := 311) (by decide +kernel), rfl⟩
theorem wd_312 : Cond.selects "DuelSamples$Roster" ⟨"DuelSamples$Roster", "fact", "(II)I"⟩ ⟨"DuelSamples$Roster", "fact", "(II)I"⟩ ∈ TG := List.mem_filter.mpr ⟨List.mem_of_getElem? (i := 312) (by decide +kernel), rfl⟩
theorem wd_313 : Cond.code ⟨"DuelSamples$Roster", "fact", "(II)I"⟩ prog_5_method_4_code 3 (Option.some Jvm.ClassFile.FieldType.int) ∈ TG := List.mem_filter.mpr ⟨List.mem_of_getElem? (i := 313) (by decide +kernel), rfl⟩
theorem wd_314 : Cond.methodLink "DuelSamplesLaw" 33 ⟨"DuelSamples", "of", "(II)I"⟩ ∈ TG := List.mem_filter.mpr ⟨List.mem_of_getElem? (i := 314) (by decide +kernel), rfl⟩
theorem wd_315 : Cond.instanceMethod ⟨"DuelSamples", "of", "(II)I"⟩ ∈ TG := List.mem_filter.mpr ⟨List.mem_of_getElem? (i := 315) (by decide +kernel), rfl⟩
theorem wd_316 : Cond.selects "DuelSamples" ⟨"DuelSamples", "of", "(II)I"⟩ ⟨"DuelSamples", "of", "(II)I"⟩ ∈ TG := List.mem_filter.mpr ⟨List.mem_of_getElem? (i := 316) (by decide +kernel), rfl⟩
theorem wd_317 : Cond.code ⟨"DuelSamples", "of", "(II)I"⟩ prog_1_method_6_code 3 (Option.some Jvm.ClassFile.FieldType.int) ∈ TG := List.mem_filter.mpr ⟨List.mem_of_getElem? (i := 317) (by decide +kernel), rfl⟩
theorem wd_318 : Cond.methodLink "DuelSamples" 103 ⟨"DuelSamples", "knownOf", "(II)I"⟩ ∈ TG := List.mem_filter.mpr ⟨List.mem_of_getElem? (i := 318) (by decide +kernel), rfl⟩
theorem wd_320 : Cond.instanceMethod ⟨"DuelSamples", "knownOf", "(II)I"⟩ ∈ TG := List.mem_filter.mpr ⟨List.mem_of_getElem? (i := 320) (by decide +kernel), rfl⟩
theorem wd_321 : Cond.code ⟨"DuelSamples", "knownOf", "(II)I"⟩ prog_1_method_32_code 3 (Option.some Jvm.ClassFile.FieldType.int) ∈ TG := List.mem_filter.mpr ⟨List.mem_of_getElem? (i := 321) (by decide +kernel), rfl⟩
theorem wd_322 : Cond.methodLink "DuelSamples" 143 ⟨"DuelSamples$Course", "holds", "(I)Z"⟩ ∈ TG := List.mem_filter.mpr ⟨List.mem_of_getElem? (i := 322) (by decide +kernel), rfl⟩
theorem wd_323 : Cond.instanceMethod ⟨"DuelSamples$Course", "holds", "(I)Z"⟩ ∈ TG := List.mem_filter.mpr ⟨List.mem_of_getElem? (i := 323) (by decide +kernel), rfl⟩
theorem wd_324 : Cond.selects "DuelSamples$Course" ⟨"DuelSamples$Course", "holds", "(I)Z"⟩ ⟨"DuelSamples$Course", "holds", "(I)Z"⟩ ∈ TG := List.mem_filter.mpr ⟨List.mem_of_getElem? (i := 324) (by decide +kernel), rfl⟩
theorem wd_325 : Cond.code ⟨"DuelSamples$Course", "holds", "(I)Z"⟩ prog_2_method_5_code 2 (Option.some Jvm.ClassFile.FieldType.boolean) ∈ TG := List.mem_filter.mpr ⟨List.mem_of_getElem? (i := 325) (by decide +kernel), rfl⟩
theorem wd_326 : Cond.methodLink "DuelSamples" 146 ⟨"DuelSamples$Roster", "fact", "(II)I"⟩ ∈ TG := List.mem_filter.mpr ⟨List.mem_of_getElem? (i := 326) (by decide +kernel), rfl⟩
theorem wd_327 : Cond.methodLink "DuelSamplesLaw" 37 ⟨"DuelSamples", "all", "(I)I"⟩ ∈ TG := List.mem_filter.mpr ⟨List.mem_of_getElem? (i := 327) (by decide +kernel), rfl⟩
theorem wd_328 : Cond.instanceMethod ⟨"DuelSamples", "all", "(I)I"⟩ ∈ TG := List.mem_filter.mpr ⟨List.mem_of_getElem? (i := 328) (by decide +kernel), rfl⟩
theorem wd_329 : Cond.selects "DuelSamples" ⟨"DuelSamples", "all", "(I)I"⟩ ⟨"DuelSamples", "all", "(I)I"⟩ ∈ TG := List.mem_filter.mpr ⟨List.mem_of_getElem? (i := 329) (by decide +kernel), rfl⟩
theorem wd_330 : Cond.code ⟨"DuelSamples", "all", "(I)I"⟩ prog_1_method_7_code 2 (Option.some Jvm.ClassFile.FieldType.int) ∈ TG := List.mem_filter.mpr ⟨List.mem_of_getElem? (i := 330) (by decide +kernel), rfl⟩
theorem wd_331 : Cond.methodLink "DuelSamples" 107 ⟨"DuelSamples$Roster", "openAtFirst", "()I"⟩ ∈ TG := List.mem_filter.mpr ⟨List.mem_of_getElem? (i := 331) (by decide +kernel), rfl⟩
theorem wd_332 : Cond.instanceMethod ⟨"DuelSamples$Roster", "openAtFirst", "()I"⟩ ∈ TG := List.mem_filter.mpr ⟨List.mem_of_getElem? (i := 332) (by decide +kernel), rfl⟩
theorem wd_333 : Cond.selects "DuelSamples$Roster" ⟨"DuelSamples$Roster", "openAtFirst", "()I"⟩ ⟨"DuelSamples$Roster", "openAtFirst", "()I"⟩ ∈ TG := List.mem_filter.mpr ⟨List.mem_of_getElem? (i := 333) (by decide +kernel), rfl⟩
theorem wd_334 : Cond.code ⟨"DuelSamples$Roster", "openAtFirst", "()I"⟩ prog_5_method_10_code 3 (Option.some Jvm.ClassFile.FieldType.int) ∈ TG := List.mem_filter.mpr ⟨List.mem_of_getElem? (i := 334) (by decide +kernel), rfl⟩
theorem wd_335 : Cond.methodLink "DuelSamplesLaw" 42 ⟨"DuelSamples", "method", "(I)I"⟩ ∈ TG := List.mem_filter.mpr ⟨List.mem_of_getElem? (i := 335) (by decide +kernel), rfl⟩
theorem wd_336 : Cond.instanceMethod ⟨"DuelSamples", "method", "(I)I"⟩ ∈ TG := List.mem_filter.mpr ⟨List.mem_of_getElem? (i := 336) (by decide +kernel), rfl⟩
theorem wd_337 : Cond.selects "DuelSamples" ⟨"DuelSamples", "method", "(I)I"⟩ ⟨"DuelSamples", "method", "(I)I"⟩ ∈ TG := List.mem_filter.mpr ⟨List.mem_of_getElem? (i := 337) (by decide +kernel), rfl⟩
theorem wd_338 : Cond.code ⟨"DuelSamples", "method", "(I)I"⟩ prog_1_method_8_code 2 (Option.some Jvm.ClassFile.FieldType.int) ∈ TG := List.mem_filter.mpr ⟨List.mem_of_getElem? (i := 338) (by decide +kernel), rfl⟩
theorem wd_339 : Cond.methodLink "DuelSamples" 111 ⟨"DuelSamples", "changeMethod", "(I)I"⟩ ∈ TG := List.mem_filter.mpr ⟨List.mem_of_getElem? (i := 339) (by decide +kernel), rfl⟩
theorem wd_341 : Cond.instanceMethod ⟨"DuelSamples", "changeMethod", "(I)I"⟩ ∈ TG := List.mem_filter.mpr ⟨List.mem_of_getElem? (i := 341) (by decide +kernel), rfl⟩
theorem wd_342 : Cond.code ⟨"DuelSamples", "changeMethod", "(I)I"⟩ prog_1_method_33_code 3 (Option.some Jvm.ClassFile.FieldType.int) ∈ TG := List.mem_filter.mpr ⟨List.mem_of_getElem? (i := 342) (by decide +kernel), rfl⟩
theorem wd_343 : Cond.methodLink "DuelSamplesLaw" 46 ⟨"DuelSamples", "walk", "(I)I"⟩ ∈ TG := List.mem_filter.mpr ⟨List.mem_of_getElem? (i := 343) (by decide +kernel), rfl⟩
theorem wd_344 : Cond.instanceMethod ⟨"DuelSamples", "walk", "(I)I"⟩ ∈ TG := List.mem_filter.mpr ⟨List.mem_of_getElem? (i := 344) (by decide +kernel), rfl⟩
theorem wd_345 : Cond.selects "DuelSamples" ⟨"DuelSamples", "walk", "(I)I"⟩ ⟨"DuelSamples", "walk", "(I)I"⟩ ∈ TG := List.mem_filter.mpr ⟨List.mem_of_getElem? (i := 345) (by decide +kernel), rfl⟩
theorem wd_346 : Cond.code ⟨"DuelSamples", "walk", "(I)I"⟩ prog_1_method_9_code 2 (Option.some Jvm.ClassFile.FieldType.int) ∈ TG := List.mem_filter.mpr ⟨List.mem_of_getElem? (i := 346) (by decide +kernel), rfl⟩
theorem wd_347 : Cond.methodLink "DuelSamples" 117 ⟨"DuelSamples$Course", "run", "(LDuelSamples$Roster;II)V"⟩ ∈ TG := List.mem_filter.mpr ⟨List.mem_of_getElem? (i := 347) (by decide +kernel), rfl⟩
theorem wd_348 : Cond.instanceMethod ⟨"DuelSamples$Course", "run", "(LDuelSamples$Roster;II)V"⟩ ∈ TG := List.mem_filter.mpr ⟨List.mem_of_getElem? (i := 348) (by decide +kernel), rfl⟩
theorem wd_349 : Cond.selects "DuelSamples$Course" ⟨"DuelSamples$Course", "run", "(LDuelSamples$Roster;II)V"⟩ ⟨"DuelSamples$Course", "run", "(LDuelSamples$Roster;II)V"⟩ ∈ TG := List.mem_filter.mpr ⟨List.mem_of_getElem? (i := 349) (by decide +kernel), rfl⟩
theorem wd_350 : Cond.code ⟨"DuelSamples$Course", "run", "(LDuelSamples$Roster;II)V"⟩ prog_2_method_2_code 9 (Option.none : Option Jvm.ClassFile.FieldType) ∈ TG := List.mem_filter.mpr ⟨List.mem_of_getElem? (i := 350) (by decide +kernel), rfl⟩
theorem wd_351 : Cond.methodLink "DuelSamples$Course" 24 ⟨"DuelSamples$Course", "forget", "()V"⟩ ∈ TG := List.mem_filter.mpr ⟨List.mem_of_getElem? (i := 351) (by decide +kernel), rfl⟩
theorem wd_352 : Cond.methodLink "DuelSamples$Course" 27 ⟨"DuelSamples$Course", "begin", "(LDuelSamples$Roster;)V"⟩ ∈ TG := List.mem_filter.mpr ⟨List.mem_of_getElem? (i := 352) (by decide +kernel), rfl⟩
theorem wd_353 : Cond.instanceMethod ⟨"DuelSamples$Course", "begin", "(LDuelSamples$Roster;)V"⟩ ∈ TG := List.mem_filter.mpr ⟨List.mem_of_getElem? (i := 353) (by decide +kernel), rfl⟩
theorem wd_354 : Cond.selects "DuelSamples$Course" ⟨"DuelSamples$Course", "begin", "(LDuelSamples$Roster;)V"⟩ ⟨"DuelSamples$Course", "begin", "(LDuelSamples$Roster;)V"⟩ ∈ TG := List.mem_filter.mpr ⟨List.mem_of_getElem? (i := 354) (by decide +kernel), rfl⟩
theorem wd_355 : Cond.code ⟨"DuelSamples$Course", "begin", "(LDuelSamples$Roster;)V"⟩ prog_2_method_4_code 3 (Option.none : Option Jvm.ClassFile.FieldType) ∈ TG := List.mem_filter.mpr ⟨List.mem_of_getElem? (i := 355) (by decide +kernel), rfl⟩
theorem wd_356 : Cond.methodLink "DuelSamples$Course" 71 ⟨"DuelSamples$Roster", "fact", "(II)I"⟩ ∈ TG := List.mem_filter.mpr ⟨List.mem_of_getElem? (i := 356) (by decide +kernel), rfl⟩
theorem wd_357 : Cond.methodLink "DuelSamples$Course" 31 ⟨"DuelSamples$Course", "pick", "(LDuelSamples$Roster;I)Z"⟩ ∈ TG := List.mem_filter.mpr ⟨List.mem_of_getElem? (i := 357) (by decide +kernel), rfl⟩
theorem wd_358 : Cond.instanceMethod ⟨"DuelSamples$Course", "pick", "(LDuelSamples$Roster;I)Z"⟩ ∈ TG := List.mem_filter.mpr ⟨List.mem_of_getElem? (i := 358) (by decide +kernel), rfl⟩
theorem wd_359 : Cond.selects "DuelSamples$Course" ⟨"DuelSamples$Course", "pick", "(LDuelSamples$Roster;I)Z"⟩ ⟨"DuelSamples$Course", "pick", "(LDuelSamples$Roster;I)Z"⟩ ∈ TG := List.mem_filter.mpr ⟨List.mem_of_getElem? (i := 359) (by decide +kernel), rfl⟩
theorem wd_360 : Cond.code ⟨"DuelSamples$Course", "pick", "(LDuelSamples$Roster;I)Z"⟩ prog_2_method_12_code 3 (Option.some Jvm.ClassFile.FieldType.boolean) ∈ TG := List.mem_filter.mpr ⟨List.mem_of_getElem? (i := 360) (by decide +kernel), rfl⟩
theorem wd_361 : Cond.methodLink "DuelSamples$Course" 81 ⟨"DuelSamples$Course", "openFrom", "(I)I"⟩ ∈ TG := List.mem_filter.mpr ⟨List.mem_of_getElem? (i := 361) (by decide +kernel), rfl⟩
theorem wd_363 : Cond.instanceMethod ⟨"DuelSamples$Course", "openFrom", "(I)I"⟩ ∈ TG := List.mem_filter.mpr ⟨List.mem_of_getElem? (i := 363) (by decide +kernel), rfl⟩
theorem wd_364 : Cond.code ⟨"DuelSamples$Course", "openFrom", "(I)I"⟩ prog_2_method_11_code 3 (Option.some Jvm.ClassFile.FieldType.int) ∈ TG := List.mem_filter.mpr ⟨List.mem_of_getElem? (i := 364) (by decide +kernel), rfl⟩
theorem wd_365 : Cond.methodLink "DuelSamples$Course" 77 ⟨"DuelSamples$Course", "isOpen", "(I)Z"⟩ ∈ TG := List.mem_filter.mpr ⟨List.mem_of_getElem? (i := 365) (by decide +kernel), rfl⟩
theorem wd_367 : Cond.instanceMethod ⟨"DuelSamples$Course", "isOpen", "(I)Z"⟩ ∈ TG := List.mem_filter.mpr ⟨List.mem_of_getElem? (i := 367) (by decide +kernel), rfl⟩
theorem wd_368 : Cond.code ⟨"DuelSamples$Course", "isOpen", "(I)Z"⟩ prog_2_method_10_code 2 (Option.some Jvm.ClassFile.FieldType.boolean) ∈ TG := List.mem_filter.mpr ⟨List.mem_of_getElem? (i := 368) (by decide +kernel), rfl⟩
theorem wd_369 : Cond.methodLink "DuelSamples$Course" 91 ⟨"DuelSamples$Course", "byDistance", "(LDuelSamples$Roster;I)I"⟩ ∈ TG := List.mem_filter.mpr ⟨List.mem_of_getElem? (i := 369) (by decide +kernel), rfl⟩
theorem wd_371 : Cond.instanceMethod ⟨"DuelSamples$Course", "byDistance", "(LDuelSamples$Roster;I)I"⟩ ∈ TG := List.mem_filter.mpr ⟨List.mem_of_getElem? (i := 371) (by decide +kernel), rfl⟩
theorem wd_372 : Cond.code ⟨"DuelSamples$Course", "byDistance", "(LDuelSamples$Roster;I)I"⟩ prog_2_method_13_code 7 (Option.some Jvm.ClassFile.FieldType.int) ∈ TG := List.mem_filter.mpr ⟨List.mem_of_getElem? (i := 372) (by decide +kernel), rfl⟩
theorem wd_373 : Cond.methodLink "DuelSamples$Course" 101 ⟨"DuelSamples$Roster", "distance", "(II)I"⟩ ∈ TG := List.mem_filter.mpr ⟨List.mem_of_getElem? (i := 373) (by decide +kernel), rfl⟩
theorem wd_374 : Cond.instanceMethod ⟨"DuelSamples$Roster", "distance", "(II)I"⟩ ∈ TG := List.mem_filter.mpr ⟨List.mem_of_getElem? (i := 374) (by decide +kernel), rfl⟩
theorem wd_375 : Cond.selects "DuelSamples$Roster" ⟨"DuelSamples$Roster", "distance", "(II)I"⟩ ⟨"DuelSamples$Roster", "distance", "(II)I"⟩ ∈ TG := List.mem_filter.mpr ⟨List.mem_of_getElem? (i := 375) (by decide +kernel), rfl⟩
theorem wd_376 : Cond.code ⟨"DuelSamples$Roster", "distance", "(II)I"⟩ prog_5_method_8_code 3 (Option.some Jvm.ClassFile.FieldType.int) ∈ TG := List.mem_filter.mpr ⟨List.mem_of_getElem? (i := 376) (by decide +kernel), rfl⟩
theorem wd_377 : Cond.methodLink "DuelSamples$Roster" 35 ⟨"java/lang/Math", "abs", "(I)I"⟩ ∈ TG := List.mem_filter.mpr ⟨List.mem_of_getElem? (i := 377) (by decide +kernel), rfl⟩
theorem wd_378 : Cond.static ⟨"java/lang/Math", "abs", "(I)I"⟩ ∈ TG := List.mem_filter.mpr ⟨List.mem_of_getElem? (i := 378) (by decide +kernel), rfl⟩
theorem wd_379 : Cond.code ⟨"java/lang/Math", "abs", "(I)I"⟩ prog_11_method_59_code 1 (Option.some Jvm.ClassFile.FieldType.int) ∈ TG := List.mem_filter.mpr ⟨List.mem_of_getElem? (i := 379) (by decide +kernel), rfl⟩
theorem wd_380 : Cond.methodLink "DuelSamples$Course" 95 ⟨"DuelSamples$Course", "pickOfStratum", "(LDuelSamples$Roster;)V"⟩ ∈ TG := List.mem_filter.mpr ⟨List.mem_of_getElem? (i := 380) (by decide +kernel), rfl⟩
theorem wd_382 : Cond.instanceMethod ⟨"DuelSamples$Course", "pickOfStratum", "(LDuelSamples$Roster;)V"⟩ ∈ TG := List.mem_filter.mpr ⟨List.mem_of_getElem? (i := 382) (by decide +kernel), rfl⟩
theorem wd_383 : Cond.code ⟨"DuelSamples$Course", "pickOfStratum", "(LDuelSamples$Roster;)V"⟩ prog_2_method_14_code 5 (Option.none : Option Jvm.ClassFile.FieldType) ∈ TG := List.mem_filter.mpr ⟨List.mem_of_getElem? (i := 383) (by decide +kernel), rfl⟩
theorem wd_384 : Cond.methodLink "DuelSamples$Course" 104 ⟨"DuelSamples$Course", "openOfStratum", "(LDuelSamples$Roster;II)I"⟩ ∈ TG := List.mem_filter.mpr ⟨List.mem_of_getElem? (i := 384) (by decide +kernel), rfl⟩
theorem wd_386 : Cond.instanceMethod ⟨"DuelSamples$Course", "openOfStratum", "(LDuelSamples$Roster;II)I"⟩ ∈ TG := List.mem_filter.mpr ⟨List.mem_of_getElem? (i := 386) (by decide +kernel), rfl⟩
theorem wd_387 : Cond.code ⟨"DuelSamples$Course", "openOfStratum", "(LDuelSamples$Roster;II)I"⟩ prog_2_method_15_code 5 (Option.some Jvm.ClassFile.FieldType.int) ∈ TG := List.mem_filter.mpr ⟨List.mem_of_getElem? (i := 387) (by decide +kernel), rfl⟩
theorem wd_388 : Cond.methodLink "DuelSamples$Course" 98 ⟨"DuelSamples$Course", "pickByChance", "()V"⟩ ∈ TG := List.mem_filter.mpr ⟨List.mem_of_getElem? (i := 388) (by decide +kernel), rfl⟩
theorem wd_390 : Cond.instanceMethod ⟨"DuelSamples$Course", "pickByChance", "()V"⟩ ∈ TG := List.mem_filter.mpr ⟨List.mem_of_getElem? (i := 390) (by decide +kernel), rfl⟩
theorem wd_391 : Cond.code ⟨"DuelSamples$Course", "pickByChance", "()V"⟩ prog_2_method_16_code 1 (Option.none : Option Jvm.ClassFile.FieldType) ∈ TG := List.mem_filter.mpr ⟨List.mem_of_getElem? (i := 391) (by decide +kernel), rfl⟩
theorem wd_392 : Cond.methodLink "DuelSamples$Course" 108 ⟨"DuelSamples$Course", "mostLeftBut", "(I)I"⟩ ∈ TG := List.mem_filter.mpr ⟨List.mem_of_getElem? (i := 392) (by decide +kernel), rfl⟩
theorem wd_394 : Cond.instanceMethod ⟨"DuelSamples$Course", "mostLeftBut", "(I)I"⟩ ∈ TG := List.mem_filter.mpr ⟨List.mem_of_getElem? (i := 394) (by decide +kernel), rfl⟩
theorem wd_395 : Cond.code ⟨"DuelSamples$Course", "mostLeftBut", "(I)I"⟩ prog_2_method_17_code 5 (Option.some Jvm.ClassFile.FieldType.int) ∈ TG := List.mem_filter.mpr ⟨List.mem_of_getElem? (i := 395) (by decide +kernel), rfl⟩
theorem wn_396 : Cond.methodLinkNest "DuelSamples$Course" 35 ⟨"DuelSamples", "nextX", "(J)J"⟩ "DuelSamples" ∈ NW := List.mem_filter.mpr ⟨List.mem_of_getElem? (i := 396) (by decide +kernel), rfl⟩
theorem wd_397 : Cond.methodLink "DuelSamples$Course" 39 ⟨"DuelSamples$Course", "chancesOfBoth", "()I"⟩ ∈ TG := List.mem_filter.mpr ⟨List.mem_of_getElem? (i := 397) (by decide +kernel), rfl⟩
theorem wd_399 : Cond.instanceMethod ⟨"DuelSamples$Course", "chancesOfBoth", "()I"⟩ ∈ TG := List.mem_filter.mpr ⟨List.mem_of_getElem? (i := 399) (by decide +kernel), rfl⟩
theorem wd_400 : Cond.code ⟨"DuelSamples$Course", "chancesOfBoth", "()I"⟩ prog_2_method_19_code 2 (Option.some Jvm.ClassFile.FieldType.int) ∈ TG := List.mem_filter.mpr ⟨List.mem_of_getElem? (i := 400) (by decide +kernel), rfl⟩
theorem wd_401 : Cond.methodLink "DuelSamples$Course" 114 ⟨"DuelSamples$Course", "leftOfBoth", "()I"⟩ ∈ TG := List.mem_filter.mpr ⟨List.mem_of_getElem? (i := 401) (by decide +kernel), rfl⟩
theorem wd_403 : Cond.instanceMethod ⟨"DuelSamples$Course", "leftOfBoth", "()I"⟩ ∈ TG := List.mem_filter.mpr ⟨List.mem_of_getElem? (i := 403) (by decide +kernel), rfl⟩
theorem wd_404 : Cond.code ⟨"DuelSamples$Course", "leftOfBoth", "()I"⟩ prog_2_method_18_code 1 (Option.some Jvm.ClassFile.FieldType.int) ∈ TG := List.mem_filter.mpr ⟨List.mem_of_getElem? (i := 404) (by decide +kernel), rfl⟩
theorem wd_405 : Cond.methodLink "DuelSamples$Course" 111 ⟨"DuelSamples$Course", "leftOf", "(I)I"⟩ ∈ TG := List.mem_filter.mpr ⟨List.mem_of_getElem? (i := 405) (by decide +kernel), rfl⟩
theorem wd_406 : Cond.instanceMethod ⟨"DuelSamples$Course", "leftOf", "(I)I"⟩ ∈ TG := List.mem_filter.mpr ⟨List.mem_of_getElem? (i := 406) (by decide +kernel), rfl⟩
theorem wd_407 : Cond.selects "DuelSamples$Course" ⟨"DuelSamples$Course", "leftOf", "(I)I"⟩ ⟨"DuelSamples$Course", "leftOf", "(I)I"⟩ ∈ TG := List.mem_filter.mpr ⟨List.mem_of_getElem? (i := 407) (by decide +kernel), rfl⟩
theorem wd_408 : Cond.code ⟨"DuelSamples$Course", "leftOf", "(I)I"⟩ prog_2_method_8_code 2 (Option.some Jvm.ClassFile.FieldType.int) ∈ TG := List.mem_filter.mpr ⟨List.mem_of_getElem? (i := 408) (by decide +kernel), rfl⟩
theorem wd_409 : Cond.constantLong "DuelSamples$Course" 43 (65536) ∈ TG := List.mem_filter.mpr ⟨List.mem_of_getElem? (i := 409) (by decide +kernel), rfl⟩
theorem wd_410 : Cond.methodLink "DuelSamples$Course" 45 ⟨"DuelSamples$Course", "chancesOfFirst", "()I"⟩ ∈ TG := List.mem_filter.mpr ⟨List.mem_of_getElem? (i := 410) (by decide +kernel), rfl⟩
theorem wd_412 : Cond.instanceMethod ⟨"DuelSamples$Course", "chancesOfFirst", "()I"⟩ ∈ TG := List.mem_filter.mpr ⟨List.mem_of_getElem? (i := 412) (by decide +kernel), rfl⟩
theorem wd_413 : Cond.code ⟨"DuelSamples$Course", "chancesOfFirst", "()I"⟩ prog_2_method_20_code 1 (Option.some Jvm.ClassFile.FieldType.int) ∈ TG := List.mem_filter.mpr ⟨List.mem_of_getElem? (i := 413) (by decide +kernel), rfl⟩
theorem wd_414 : Cond.methodLink "DuelSamples$Course" 48 ⟨"DuelSamples$Course", "write", "(Z)V"⟩ ∈ TG := List.mem_filter.mpr ⟨List.mem_of_getElem? (i := 414) (by decide +kernel), rfl⟩
theorem wd_416 : Cond.instanceMethod ⟨"DuelSamples$Course", "write", "(Z)V"⟩ ∈ TG := List.mem_filter.mpr ⟨List.mem_of_getElem? (i := 416) (by decide +kernel), rfl⟩
theorem wd_417 : Cond.code ⟨"DuelSamples$Course", "write", "(Z)V"⟩ prog_2_method_21_code 2 (Option.none : Option Jvm.ClassFile.FieldType) ∈ TG := List.mem_filter.mpr ⟨List.mem_of_getElem? (i := 417) (by decide +kernel), rfl⟩
theorem wd_418 : Cond.methodLink "DuelSamples$Course" 52 ⟨"DuelSamples$Course", "settle", "(Z)V"⟩ ∈ TG := List.mem_filter.mpr ⟨List.mem_of_getElem? (i := 418) (by decide +kernel), rfl⟩
theorem wd_419 : Cond.instanceMethod ⟨"DuelSamples$Course", "settle", "(Z)V"⟩ ∈ TG := List.mem_filter.mpr ⟨List.mem_of_getElem? (i := 419) (by decide +kernel), rfl⟩
theorem wd_420 : Cond.selects "DuelSamples$Course" ⟨"DuelSamples$Course", "settle", "(Z)V"⟩ ⟨"DuelSamples$Course", "settle", "(Z)V"⟩ ∈ TG := List.mem_filter.mpr ⟨List.mem_of_getElem? (i := 420) (by decide +kernel), rfl⟩
theorem wd_421 : Cond.code ⟨"DuelSamples$Course", "settle", "(Z)V"⟩ prog_2_method_22_code 4 (Option.none : Option Jvm.ClassFile.FieldType) ∈ TG := List.mem_filter.mpr ⟨List.mem_of_getElem? (i := 421) (by decide +kernel), rfl⟩
theorem wd_422 : Cond.methodLink "DuelSamples$Course" 117 ⟨"DuelSamples$Course", "leave", "(II)V"⟩ ∈ TG := List.mem_filter.mpr ⟨List.mem_of_getElem? (i := 422) (by decide +kernel), rfl⟩
theorem wd_424 : Cond.instanceMethod ⟨"DuelSamples$Course", "leave", "(II)V"⟩ ∈ TG := List.mem_filter.mpr ⟨List.mem_of_getElem? (i := 424) (by decide +kernel), rfl⟩
theorem wd_425 : Cond.code ⟨"DuelSamples$Course", "leave", "(II)V"⟩ prog_2_method_9_code 3 (Option.none : Option Jvm.ClassFile.FieldType) ∈ TG := List.mem_filter.mpr ⟨List.mem_of_getElem? (i := 425) (by decide +kernel), rfl⟩
theorem wd_426 : Cond.methodLink "DuelSamples$Course" 121 ⟨"java/lang/Math", "min", "(II)I"⟩ ∈ TG := List.mem_filter.mpr ⟨List.mem_of_getElem? (i := 426) (by decide +kernel), rfl⟩
theorem wd_427 : Cond.static ⟨"java/lang/Math", "min", "(II)I"⟩ ∈ TG := List.mem_filter.mpr ⟨List.mem_of_getElem? (i := 427) (by decide +kernel), rfl⟩
theorem wd_428 : Cond.code ⟨"java/lang/Math", "min", "(II)I"⟩ prog_11_method_69_code 2 (Option.some Jvm.ClassFile.FieldType.int) ∈ TG := List.mem_filter.mpr ⟨List.mem_of_getElem? (i := 428) (by decide +kernel), rfl⟩
theorem wd_429 : Cond.methodLink "DuelSamples$Course" 55 ⟨"DuelSamples$Course", "wholeOnes", "()I"⟩ ∈ TG := List.mem_filter.mpr ⟨List.mem_of_getElem? (i := 429) (by decide +kernel), rfl⟩
theorem wd_430 : Cond.instanceMethod ⟨"DuelSamples$Course", "wholeOnes", "()I"⟩ ∈ TG := List.mem_filter.mpr ⟨List.mem_of_getElem? (i := 430) (by decide +kernel), rfl⟩
theorem wd_431 : Cond.selects "DuelSamples$Course" ⟨"DuelSamples$Course", "wholeOnes", "()I"⟩ ⟨"DuelSamples$Course", "wholeOnes", "()I"⟩ ∈ TG := List.mem_filter.mpr ⟨List.mem_of_getElem? (i := 431) (by decide +kernel), rfl⟩
theorem wd_432 : Cond.code ⟨"DuelSamples$Course", "wholeOnes", "()I"⟩ prog_2_method_24_code 3 (Option.some Jvm.ClassFile.FieldType.int) ∈ TG := List.mem_filter.mpr ⟨List.mem_of_getElem? (i := 432) (by decide +kernel), rfl⟩
theorem wd_433 : Cond.methodLink "DuelSamples" 124 ⟨"java/lang/Integer", "bitCount", "(I)I"⟩ ∈ TG := List.mem_filter.mpr ⟨List.mem_of_getElem? (i := 433) (by decide +kernel), rfl⟩
theorem wd_434 : Cond.static ⟨"java/lang/Integer", "bitCount", "(I)I"⟩ ∈ TG := List.mem_filter.mpr ⟨List.mem_of_getElem? (i := 434) (by decide +kernel), rfl⟩
theorem wd_435 : Cond.code ⟨"java/lang/Integer", "bitCount", "(I)I"⟩ prog_9_method_49_code 1 (Option.some Jvm.ClassFile.FieldType.int) ∈ TG := List.mem_filter.mpr ⟨List.mem_of_getElem? (i := 435) (by decide +kernel), rfl⟩
theorem wd_436 : Cond.constant "java/lang/Integer" 265 (1431655765) ∈ TG := List.mem_filter.mpr ⟨List.mem_of_getElem? (i := 436) (by decide +kernel), rfl⟩
theorem wd_437 : Cond.constant "java/lang/Integer" 266 (858993459) ∈ TG := List.mem_filter.mpr ⟨List.mem_of_getElem? (i := 437) (by decide +kernel), rfl⟩
theorem wd_438 : Cond.constant "java/lang/Integer" 267 (252645135) ∈ TG := List.mem_filter.mpr ⟨List.mem_of_getElem? (i := 438) (by decide +kernel), rfl⟩
theorem wd_439 : Cond.methodLink "DuelSamplesLaw" 50 ⟨"DuelSamples", "was", "(I)I"⟩ ∈ TG := List.mem_filter.mpr ⟨List.mem_of_getElem? (i := 439) (by decide +kernel), rfl⟩
theorem wd_440 : Cond.instanceMethod ⟨"DuelSamples", "was", "(I)I"⟩ ∈ TG := List.mem_filter.mpr ⟨List.mem_of_getElem? (i := 440) (by decide +kernel), rfl⟩
theorem wd_441 : Cond.selects "DuelSamples" ⟨"DuelSamples", "was", "(I)I"⟩ ⟨"DuelSamples", "was", "(I)I"⟩ ∈ TG := List.mem_filter.mpr ⟨List.mem_of_getElem? (i := 441) (by decide +kernel), rfl⟩
theorem wd_442 : Cond.code ⟨"DuelSamples", "was", "(I)I"⟩ prog_1_method_10_code 2 (Option.some Jvm.ClassFile.FieldType.int) ∈ TG := List.mem_filter.mpr ⟨List.mem_of_getElem? (i := 442) (by decide +kernel), rfl⟩
theorem wd_443 : Cond.methodLink "DuelSamples" 129 ⟨"DuelSamples$Course", "tally", "(I)I"⟩ ∈ TG := List.mem_filter.mpr ⟨List.mem_of_getElem? (i := 443) (by decide +kernel), rfl⟩
theorem wd_444 : Cond.instanceMethod ⟨"DuelSamples$Course", "tally", "(I)I"⟩ ∈ TG := List.mem_filter.mpr ⟨List.mem_of_getElem? (i := 444) (by decide +kernel), rfl⟩
theorem wd_445 : Cond.selects "DuelSamples$Course" ⟨"DuelSamples$Course", "tally", "(I)I"⟩ ⟨"DuelSamples$Course", "tally", "(I)I"⟩ ∈ TG := List.mem_filter.mpr ⟨List.mem_of_getElem? (i := 445) (by decide +kernel), rfl⟩
theorem wd_446 : Cond.code ⟨"DuelSamples$Course", "tally", "(I)I"⟩ prog_2_method_6_code 2 (Option.some Jvm.ClassFile.FieldType.int) ∈ TG := List.mem_filter.mpr ⟨List.mem_of_getElem? (i := 446) (by decide +kernel), rfl⟩
theorem wd_447 : Cond.methodLink "DuelSamplesLaw" 54 ⟨"DuelSamples", "play", "(II)I"⟩ ∈ TG := List.mem_filter.mpr ⟨List.mem_of_getElem? (i := 447) (by decide +kernel), rfl⟩
theorem wd_448 : Cond.instanceMethod ⟨"DuelSamples", "play", "(II)I"⟩ ∈ TG := List.mem_filter.mpr ⟨List.mem_of_getElem? (i := 448) (by decide +kernel), rfl⟩
theorem wd_449 : Cond.selects "DuelSamples" ⟨"DuelSamples", "play", "(II)I"⟩ ⟨"DuelSamples", "play", "(II)I"⟩ ∈ TG := List.mem_filter.mpr ⟨List.mem_of_getElem? (i := 449) (by decide +kernel), rfl⟩
theorem wd_450 : Cond.code ⟨"DuelSamples", "play", "(II)I"⟩ prog_1_method_11_code 3 (Option.some Jvm.ClassFile.FieldType.int) ∈ TG := List.mem_filter.mpr ⟨List.mem_of_getElem? (i := 450) (by decide +kernel), rfl⟩
theorem wd_451 : Cond.methodLink "DuelSamples" 132 ⟨"DuelSamples$Course", "recorded", "(II)I"⟩ ∈ TG := List.mem_filter.mpr ⟨List.mem_of_getElem? (i := 451) (by decide +kernel), rfl⟩
theorem wd_452 : Cond.instanceMethod ⟨"DuelSamples$Course", "recorded", "(II)I"⟩ ∈ TG := List.mem_filter.mpr ⟨List.mem_of_getElem? (i := 452) (by decide +kernel), rfl⟩
theorem wd_453 : Cond.selects "DuelSamples$Course" ⟨"DuelSamples$Course", "recorded", "(II)I"⟩ ⟨"DuelSamples$Course", "recorded", "(II)I"⟩ ∈ TG := List.mem_filter.mpr ⟨List.mem_of_getElem? (i := 453) (by decide +kernel), rfl⟩
theorem wd_454 : Cond.code ⟨"DuelSamples$Course", "recorded", "(II)I"⟩ prog_2_method_7_code 3 (Option.some Jvm.ClassFile.FieldType.int) ∈ TG := List.mem_filter.mpr ⟨List.mem_of_getElem? (i := 454) (by decide +kernel), rfl⟩
theorem wd_455 : Cond.methodLink "DuelSamplesLaw" 58 ⟨"DuelSamples", "counted", "(I)J"⟩ ∈ TG := List.mem_filter.mpr ⟨List.mem_of_getElem? (i := 455) (by decide +kernel), rfl⟩
theorem wd_456 : Cond.instanceMethod ⟨"DuelSamples", "counted", "(I)J"⟩ ∈ TG := List.mem_filter.mpr ⟨List.mem_of_getElem? (i := 456) (by decide +kernel), rfl⟩
theorem wd_457 : Cond.selects "DuelSamples" ⟨"DuelSamples", "counted", "(I)J"⟩ ⟨"DuelSamples", "counted", "(I)J"⟩ ∈ TG := List.mem_filter.mpr ⟨List.mem_of_getElem? (i := 457) (by decide +kernel), rfl⟩
theorem wd_458 : Cond.code ⟨"DuelSamples", "counted", "(I)J"⟩ prog_1_method_12_code 2 (Option.some Jvm.ClassFile.FieldType.long) ∈ TG := List.mem_filter.mpr ⟨List.mem_of_getElem? (i := 458) (by decide +kernel), rfl⟩
theorem wd_459 : Cond.methodLink "DuelSamples" 135 ⟨"DuelSamples$Roster", "countUp", "(II)J"⟩ ∈ TG := List.mem_filter.mpr ⟨List.mem_of_getElem? (i := 459) (by decide +kernel), rfl⟩
theorem wd_460 : Cond.instanceMethod ⟨"DuelSamples$Roster", "countUp", "(II)J"⟩ ∈ TG := List.mem_filter.mpr ⟨List.mem_of_getElem? (i := 460) (by decide +kernel), rfl⟩
theorem wd_461 : Cond.selects "DuelSamples$Roster" ⟨"DuelSamples$Roster", "countUp", "(II)J"⟩ ⟨"DuelSamples$Roster", "countUp", "(II)J"⟩ ∈ TG := List.mem_filter.mpr ⟨List.mem_of_getElem? (i := 461) (by decide +kernel), rfl⟩
theorem wd_462 : Cond.code ⟨"DuelSamples$Roster", "countUp", "(II)J"⟩ prog_5_method_11_code 7 (Option.some Jvm.ClassFile.FieldType.long) ∈ TG := List.mem_filter.mpr ⟨List.mem_of_getElem? (i := 462) (by decide +kernel), rfl⟩
theorem wd_463 : Cond.constant "DuelSamples$Roster" 41 (332640) ∈ TG := List.mem_filter.mpr ⟨List.mem_of_getElem? (i := 463) (by decide +kernel), rfl⟩
theorem wd_464 : Cond.methodLink "DuelSamples" 139 ⟨"DuelSamples$Roster", "miss", "(I)J"⟩ ∈ TG := List.mem_filter.mpr ⟨List.mem_of_getElem? (i := 464) (by decide +kernel), rfl⟩
theorem wd_465 : Cond.instanceMethod ⟨"DuelSamples$Roster", "miss", "(I)J"⟩ ∈ TG := List.mem_filter.mpr ⟨List.mem_of_getElem? (i := 465) (by decide +kernel), rfl⟩
theorem wd_466 : Cond.selects "DuelSamples$Roster" ⟨"DuelSamples$Roster", "miss", "(I)J"⟩ ⟨"DuelSamples$Roster", "miss", "(I)J"⟩ ∈ TG := List.mem_filter.mpr ⟨List.mem_of_getElem? (i := 466) (by decide +kernel), rfl⟩
theorem wd_467 : Cond.code ⟨"DuelSamples$Roster", "miss", "(I)J"⟩ prog_5_method_12_code 2 (Option.some Jvm.ClassFile.FieldType.long) ∈ TG := List.mem_filter.mpr ⟨List.mem_of_getElem? (i := 467) (by decide +kernel), rfl⟩
theorem wd_468 : Cond.methodLink "DuelSamples$Roster" 42 ⟨"DuelSamples$Roster", "countUp", "(II)J"⟩ ∈ TG := List.mem_filter.mpr ⟨List.mem_of_getElem? (i := 468) (by decide +kernel), rfl⟩
theorem wd_469 : Cond.methodLink "DuelSamples$Roster" 46 ⟨"DuelSamples$Roster", "sum", "(I)I"⟩ ∈ TG := List.mem_filter.mpr ⟨List.mem_of_getElem? (i := 469) (by decide +kernel), rfl⟩
theorem wd_470 : Cond.constantLong "DuelSamples$Roster" 49 (27720) ∈ TG := List.mem_filter.mpr ⟨List.mem_of_getElem? (i := 470) (by decide +kernel), rfl⟩
theorem wd_471 : Cond.methodLink "DuelSamples$Roster" 51 ⟨"java/lang/Math", "abs", "(J)J"⟩ ∈ TG := List.mem_filter.mpr ⟨List.mem_of_getElem? (i := 471) (by decide +kernel), rfl⟩
theorem wd_472 : Cond.static ⟨"java/lang/Math", "abs", "(J)J"⟩ ∈ TG := List.mem_filter.mpr ⟨List.mem_of_getElem? (i := 472) (by decide +kernel), rfl⟩
theorem wd_473 : Cond.code ⟨"java/lang/Math", "abs", "(J)J"⟩ prog_11_method_61_code 2 (Option.some Jvm.ClassFile.FieldType.long) ∈ TG := List.mem_filter.mpr ⟨List.mem_of_getElem? (i := 473) (by decide +kernel), rfl⟩
theorem wd_474 : Cond.methodLink "DuelSamplesLaw" 63 ⟨"DuelSamples", "inside", "(I)I"⟩ ∈ TG := List.mem_filter.mpr ⟨List.mem_of_getElem? (i := 474) (by decide +kernel), rfl⟩
theorem wd_475 : Cond.instanceMethod ⟨"DuelSamples", "inside", "(I)I"⟩ ∈ TG := List.mem_filter.mpr ⟨List.mem_of_getElem? (i := 475) (by decide +kernel), rfl⟩
theorem wd_476 : Cond.selects "DuelSamples" ⟨"DuelSamples", "inside", "(I)I"⟩ ⟨"DuelSamples", "inside", "(I)I"⟩ ∈ TG := List.mem_filter.mpr ⟨List.mem_of_getElem? (i := 476) (by decide +kernel), rfl⟩
theorem wd_477 : Cond.code ⟨"DuelSamples", "inside", "(I)I"⟩ prog_1_method_13_code 4 (Option.some Jvm.ClassFile.FieldType.int) ∈ TG := List.mem_filter.mpr ⟨List.mem_of_getElem? (i := 477) (by decide +kernel), rfl⟩
theorem wd_478 : Cond.methodLink "DuelSamplesLaw" 67 ⟨"DuelSamples", "spread", "()I"⟩ ∈ TG := List.mem_filter.mpr ⟨List.mem_of_getElem? (i := 478) (by decide +kernel), rfl⟩
theorem wd_479 : Cond.instanceMethod ⟨"DuelSamples", "spread", "()I"⟩ ∈ TG := List.mem_filter.mpr ⟨List.mem_of_getElem? (i := 479) (by decide +kernel), rfl⟩
theorem wd_480 : Cond.selects "DuelSamples" ⟨"DuelSamples", "spread", "()I"⟩ ⟨"DuelSamples", "spread", "()I"⟩ ∈ TG := List.mem_filter.mpr ⟨List.mem_of_getElem? (i := 480) (by decide +kernel), rfl⟩
theorem wd_481 : Cond.code ⟨"DuelSamples", "spread", "()I"⟩ prog_1_method_14_code 5 (Option.some Jvm.ClassFile.FieldType.int) ∈ TG := List.mem_filter.mpr ⟨List.mem_of_getElem? (i := 481) (by decide +kernel), rfl⟩
theorem wd_482 : Cond.methodLink "DuelSamples" 149 ⟨"DuelSamples$Roster", "distance", "(II)I"⟩ ∈ TG := List.mem_filter.mpr ⟨List.mem_of_getElem? (i := 482) (by decide +kernel), rfl⟩
theorem wd_483 : Cond.methodLink "DuelSamples" 152 ⟨"java/lang/Math", "min", "(II)I"⟩ ∈ TG := List.mem_filter.mpr ⟨List.mem_of_getElem? (i := 483) (by decide +kernel), rfl⟩
theorem wd_484 : Cond.methodLink "DuelSamplesLaw" 71 ⟨"DuelSamples", "often", "(III)I"⟩ ∈ TG := List.mem_filter.mpr ⟨List.mem_of_getElem? (i := 484) (by decide +kernel), rfl⟩
theorem wd_485 : Cond.instanceMethod ⟨"DuelSamples", "often", "(III)I"⟩ ∈ TG := List.mem_filter.mpr ⟨List.mem_of_getElem? (i := 485) (by decide +kernel), rfl⟩
theorem wd_486 : Cond.selects "DuelSamples" ⟨"DuelSamples", "often", "(III)I"⟩ ⟨"DuelSamples", "often", "(III)I"⟩ ∈ TG := List.mem_filter.mpr ⟨List.mem_of_getElem? (i := 486) (by decide +kernel), rfl⟩
theorem wd_487 : Cond.code ⟨"DuelSamples", "often", "(III)I"⟩ prog_1_method_15_code 4 (Option.some Jvm.ClassFile.FieldType.int) ∈ TG := List.mem_filter.mpr ⟨List.mem_of_getElem? (i := 487) (by decide +kernel), rfl⟩
theorem wd_488 : Cond.methodLink "DuelSamples" 157 ⟨"DuelSamples", "areSeeds", "(II)Z"⟩ ∈ TG := List.mem_filter.mpr ⟨List.mem_of_getElem? (i := 488) (by decide +kernel), rfl⟩
theorem wd_489 : Cond.static ⟨"DuelSamples", "areSeeds", "(II)Z"⟩ ∈ TG := List.mem_filter.mpr ⟨List.mem_of_getElem? (i := 489) (by decide +kernel), rfl⟩
theorem wd_490 : Cond.code ⟨"DuelSamples", "areSeeds", "(II)Z"⟩ prog_1_method_30_code 2 (Option.some Jvm.ClassFile.FieldType.boolean) ∈ TG := List.mem_filter.mpr ⟨List.mem_of_getElem? (i := 490) (by decide +kernel), rfl⟩
theorem wd_491 : Cond.constant "DuelSamples" 221 (1000000) ∈ TG := List.mem_filter.mpr ⟨List.mem_of_getElem? (i := 491) (by decide +kernel), rfl⟩
theorem wd_492 : Cond.methodLink "DuelSamples" 160 ⟨"DuelSamples", "walksWith", "(III)I"⟩ ∈ TG := List.mem_filter.mpr ⟨List.mem_of_getElem? (i := 492) (by decide +kernel), rfl⟩
theorem wd_494 : Cond.instanceMethod ⟨"DuelSamples", "walksWith", "(III)I"⟩ ∈ TG := List.mem_filter.mpr ⟨List.mem_of_getElem? (i := 494) (by decide +kernel), rfl⟩
theorem wd_495 : Cond.code ⟨"DuelSamples", "walksWith", "(III)I"⟩ prog_1_method_35_code 6 (Option.some Jvm.ClassFile.FieldType.int) ∈ TG := List.mem_filter.mpr ⟨List.mem_of_getElem? (i := 495) (by decide +kernel), rfl⟩
theorem wd_496 : Cond.methodLink "DuelSamplesLaw" 75 ⟨"DuelSamples", "both", "(IIII)I"⟩ ∈ TG := List.mem_filter.mpr ⟨List.mem_of_getElem? (i := 496) (by decide +kernel), rfl⟩
theorem wd_497 : Cond.instanceMethod ⟨"DuelSamples", "both", "(IIII)I"⟩ ∈ TG := List.mem_filter.mpr ⟨List.mem_of_getElem? (i := 497) (by decide +kernel), rfl⟩
theorem wd_498 : Cond.selects "DuelSamples" ⟨"DuelSamples", "both", "(IIII)I"⟩ ⟨"DuelSamples", "both", "(IIII)I"⟩ ∈ TG := List.mem_filter.mpr ⟨List.mem_of_getElem? (i := 498) (by decide +kernel), rfl⟩
theorem wd_499 : Cond.code ⟨"DuelSamples", "both", "(IIII)I"⟩ prog_1_method_16_code 5 (Option.some Jvm.ClassFile.FieldType.int) ∈ TG := List.mem_filter.mpr ⟨List.mem_of_getElem? (i := 499) (by decide +kernel), rfl⟩
theorem wd_500 : Cond.methodLink "DuelSamplesLaw" 80 ⟨"DuelSamples", "best", "(III)J"⟩ ∈ TG := List.mem_filter.mpr ⟨List.mem_of_getElem? (i := 500) (by decide +kernel), rfl⟩
theorem wd_501 : Cond.instanceMethod ⟨"DuelSamples", "best", "(III)J"⟩ ∈ TG := List.mem_filter.mpr ⟨List.mem_of_getElem? (i := 501) (by decide +kernel), rfl⟩
theorem wd_502 : Cond.selects "DuelSamples" ⟨"DuelSamples", "best", "(III)J"⟩ ⟨"DuelSamples", "best", "(III)J"⟩ ∈ TG := List.mem_filter.mpr ⟨List.mem_of_getElem? (i := 502) (by decide +kernel), rfl⟩
theorem wd_503 : Cond.code ⟨"DuelSamples", "best", "(III)J"⟩ prog_1_method_17_code 10 (Option.some Jvm.ClassFile.FieldType.long) ∈ TG := List.mem_filter.mpr ⟨List.mem_of_getElem? (i := 503) (by decide +kernel), rfl⟩
theorem wd_504 : Cond.constantLong "DuelSamples" 163 (-1) ∈ TG := List.mem_filter.mpr ⟨List.mem_of_getElem? (i := 504) (by decide +kernel), rfl⟩
theorem wd_505 : Cond.methodLink "DuelSamplesLaw" 85 ⟨"DuelSamples", "many", "()I"⟩ ∈ TG := List.mem_filter.mpr ⟨List.mem_of_getElem? (i := 505) (by decide +kernel), rfl⟩
theorem wd_506 : Cond.instanceMethod ⟨"DuelSamples", "many", "()I"⟩ ∈ TG := List.mem_filter.mpr ⟨List.mem_of_getElem? (i := 506) (by decide +kernel), rfl⟩
theorem wd_507 : Cond.selects "DuelSamples" ⟨"DuelSamples", "many", "()I"⟩ ⟨"DuelSamples", "many", "()I"⟩ ∈ TG := List.mem_filter.mpr ⟨List.mem_of_getElem? (i := 507) (by decide +kernel), rfl⟩
theorem wd_508 : Cond.code ⟨"DuelSamples", "many", "()I"⟩ prog_1_method_18_code 1 (Option.some Jvm.ClassFile.FieldType.int) ∈ TG := List.mem_filter.mpr ⟨List.mem_of_getElem? (i := 508) (by decide +kernel), rfl⟩
theorem wd_509 : Cond.methodLink "DuelSamples" 165 ⟨"DuelSamples$Reach", "explore", "(LDuelSamples$Roster;ILDuelSamples$Course;)V"⟩ ∈ TG := List.mem_filter.mpr ⟨List.mem_of_getElem? (i := 509) (by decide +kernel), rfl⟩
theorem wd_510 : Cond.instanceMethod ⟨"DuelSamples$Reach", "explore", "(LDuelSamples$Roster;ILDuelSamples$Course;)V"⟩ ∈ TG := List.mem_filter.mpr ⟨List.mem_of_getElem? (i := 510) (by decide +kernel), rfl⟩
theorem wd_511 : Cond.selects "DuelSamples$Reach" ⟨"DuelSamples$Reach", "explore", "(LDuelSamples$Roster;ILDuelSamples$Course;)V"⟩ ⟨"DuelSamples$Reach", "explore", "(LDuelSamples$Roster;ILDuelSamples$Course;)V"⟩ ∈ TG := List.mem_filter.mpr ⟨List.mem_of_getElem? (i := 511) (by decide +kernel), rfl⟩
theorem wd_512 : Cond.code ⟨"DuelSamples$Reach", "explore", "(LDuelSamples$Roster;ILDuelSamples$Course;)V"⟩ prog_3_method_2_code 4 (Option.none : Option Jvm.ClassFile.FieldType) ∈ TG := List.mem_filter.mpr ⟨List.mem_of_getElem? (i := 512) (by decide +kernel), rfl⟩
theorem wd_513 : Cond.methodLink "DuelSamples$Reach" 27 ⟨"java/util/Arrays", "fill", "([JJ)V"⟩ ∈ TG := List.mem_filter.mpr ⟨List.mem_of_getElem? (i := 513) (by decide +kernel), rfl⟩
theorem wd_514 : Cond.static ⟨"java/util/Arrays", "fill", "([JJ)V"⟩ ∈ TG := List.mem_filter.mpr ⟨List.mem_of_getElem? (i := 514) (by decide +kernel), rfl⟩
theorem wd_515 : Cond.code ⟨"java/util/Arrays", "fill", "([JJ)V"⟩ prog_15_method_101_code 5 (Option.none : Option Jvm.ClassFile.FieldType) ∈ TG := List.mem_filter.mpr ⟨List.mem_of_getElem? (i := 515) (by decide +kernel), rfl⟩
theorem wd_516 : Cond.methodLink "DuelSamples$Reach" 33 ⟨"DuelSamples$Course", "begin", "(LDuelSamples$Roster;)V"⟩ ∈ TG := List.mem_filter.mpr ⟨List.mem_of_getElem? (i := 516) (by decide +kernel), rfl⟩
theorem wd_517 : Cond.methodLink "DuelSamples$Reach" 39 ⟨"DuelSamples$Reach", "follow", "(LDuelSamples$Reach;LDuelSamples$Course;LDuelSamples$Roster;II)V"⟩ ∈ TG := List.mem_filter.mpr ⟨List.mem_of_getElem? (i := 517) (by decide +kernel), rfl⟩
theorem wd_518 : Cond.static ⟨"DuelSamples$Reach", "follow", "(LDuelSamples$Reach;LDuelSamples$Course;LDuelSamples$Roster;II)V"⟩ ∈ TG := List.mem_filter.mpr ⟨List.mem_of_getElem? (i := 518) (by decide +kernel), rfl⟩
theorem wd_519 : Cond.code ⟨"DuelSamples$Reach", "follow", "(LDuelSamples$Reach;LDuelSamples$Course;LDuelSamples$Roster;II)V"⟩ prog_3_method_3_code 9 (Option.none : Option Jvm.ClassFile.FieldType) ∈ TG := List.mem_filter.mpr ⟨List.mem_of_getElem? (i := 519) (by decide +kernel), rfl⟩
theorem wd_520 : Cond.methodLink "DuelSamples$Reach" 43 ⟨"DuelSamples$Course", "pick", "(LDuelSamples$Roster;I)Z"⟩ ∈ TG := List.mem_filter.mpr ⟨List.mem_of_getElem? (i := 520) (by decide +kernel), rfl⟩
theorem wd_521 : Cond.methodLink "DuelSamples$Reach" 47 ⟨"DuelSamples$Course", "wholeOnes", "()I"⟩ ∈ TG := List.mem_filter.mpr ⟨List.mem_of_getElem? (i := 521) (by decide +kernel), rfl⟩
theorem wd_522 : Cond.methodLink "DuelSamples$Reach" 51 ⟨"DuelSamples$Reach", "mark", "(I)V"⟩ ∈ TG := List.mem_filter.mpr ⟨List.mem_of_getElem? (i := 522) (by decide +kernel), rfl⟩
theorem wd_524 : Cond.instanceMethod ⟨"DuelSamples$Reach", "mark", "(I)V"⟩ ∈ TG := List.mem_filter.mpr ⟨List.mem_of_getElem? (i := 524) (by decide +kernel), rfl⟩
theorem wd_525 : Cond.code ⟨"DuelSamples$Reach", "mark", "(I)V"⟩ prog_3_method_4_code 2 (Option.none : Option Jvm.ClassFile.FieldType) ∈ TG := List.mem_filter.mpr ⟨List.mem_of_getElem? (i := 525) (by decide +kernel), rfl⟩
theorem wd_526 : Cond.methodLink "DuelSamples$Reach" 61 ⟨"DuelSamples$Course", "leftOf", "(I)I"⟩ ∈ TG := List.mem_filter.mpr ⟨List.mem_of_getElem? (i := 526) (by decide +kernel), rfl⟩
theorem wd_527 : Cond.methodLink "DuelSamples$Reach" 65 ⟨"DuelSamples$Course", "settle", "(Z)V"⟩ ∈ TG := List.mem_filter.mpr ⟨List.mem_of_getElem? (i := 527) (by decide +kernel), rfl⟩
theorem wd_528 : Cond.methodLink "DuelSamples$Reach" 69 ⟨"DuelSamples$Course", "restore", "(IIII)V"⟩ ∈ TG := List.mem_filter.mpr ⟨List.mem_of_getElem? (i := 528) (by decide +kernel), rfl⟩
theorem wd_529 : Cond.instanceMethod ⟨"DuelSamples$Course", "restore", "(IIII)V"⟩ ∈ TG := List.mem_filter.mpr ⟨List.mem_of_getElem? (i := 529) (by decide +kernel), rfl⟩
theorem wd_530 : Cond.selects "DuelSamples$Course" ⟨"DuelSamples$Course", "restore", "(IIII)V"⟩ ⟨"DuelSamples$Course", "restore", "(IIII)V"⟩ ∈ TG := List.mem_filter.mpr ⟨List.mem_of_getElem? (i := 530) (by decide +kernel), rfl⟩
theorem wd_531 : Cond.code ⟨"DuelSamples$Course", "restore", "(IIII)V"⟩ prog_2_method_23_code 5 (Option.none : Option Jvm.ClassFile.FieldType) ∈ TG := List.mem_filter.mpr ⟨List.mem_of_getElem? (i := 531) (by decide +kernel), rfl⟩
theorem wd_532 : Cond.methodLink "DuelSamples" 169 ⟨"DuelSamples$Reach", "howMany", "()I"⟩ ∈ TG := List.mem_filter.mpr ⟨List.mem_of_getElem? (i := 532) (by decide +kernel), rfl⟩
theorem wd_533 : Cond.instanceMethod ⟨"DuelSamples$Reach", "howMany", "()I"⟩ ∈ TG := List.mem_filter.mpr ⟨List.mem_of_getElem? (i := 533) (by decide +kernel), rfl⟩
theorem wd_534 : Cond.selects "DuelSamples$Reach" ⟨"DuelSamples$Reach", "howMany", "()I"⟩ ⟨"DuelSamples$Reach", "howMany", "()I"⟩ ∈ TG := List.mem_filter.mpr ⟨List.mem_of_getElem? (i := 534) (by decide +kernel), rfl⟩
theorem wd_535 : Cond.code ⟨"DuelSamples$Reach", "howMany", "()I"⟩ prog_3_method_6_code 3 (Option.some Jvm.ClassFile.FieldType.int) ∈ TG := List.mem_filter.mpr ⟨List.mem_of_getElem? (i := 535) (by decide +kernel), rfl⟩
theorem wd_536 : Cond.methodLink "DuelSamples$Reach" 73 ⟨"java/lang/Long", "bitCount", "(J)I"⟩ ∈ TG := List.mem_filter.mpr ⟨List.mem_of_getElem? (i := 536) (by decide +kernel), rfl⟩
theorem wd_537 : Cond.static ⟨"java/lang/Long", "bitCount", "(J)I"⟩ ∈ TG := List.mem_filter.mpr ⟨List.mem_of_getElem? (i := 537) (by decide +kernel), rfl⟩
theorem wd_538 : Cond.code ⟨"java/lang/Long", "bitCount", "(J)I"⟩ prog_10_method_50_code 2 (Option.some Jvm.ClassFile.FieldType.int) ∈ TG := List.mem_filter.mpr ⟨List.mem_of_getElem? (i := 538) (by decide +kernel), rfl⟩
theorem wd_539 : Cond.constantLong "java/lang/Long" 314 (6148914691236517205) ∈ TG := List.mem_filter.mpr ⟨List.mem_of_getElem? (i := 539) (by decide +kernel), rfl⟩
theorem wd_540 : Cond.constantLong "java/lang/Long" 316 (3689348814741910323) ∈ TG := List.mem_filter.mpr ⟨List.mem_of_getElem? (i := 540) (by decide +kernel), rfl⟩
theorem wd_541 : Cond.constantLong "java/lang/Long" 318 (1085102592571150095) ∈ TG := List.mem_filter.mpr ⟨List.mem_of_getElem? (i := 541) (by decide +kernel), rfl⟩
theorem wd_542 : Cond.methodLink "DuelSamplesLaw" 89 ⟨"DuelSamples", "sizes", "(I)I"⟩ ∈ TG := List.mem_filter.mpr ⟨List.mem_of_getElem? (i := 542) (by decide +kernel), rfl⟩
theorem wd_543 : Cond.instanceMethod ⟨"DuelSamples", "sizes", "(I)I"⟩ ∈ TG := List.mem_filter.mpr ⟨List.mem_of_getElem? (i := 543) (by decide +kernel), rfl⟩
theorem wd_544 : Cond.selects "DuelSamples" ⟨"DuelSamples", "sizes", "(I)I"⟩ ⟨"DuelSamples", "sizes", "(I)I"⟩ ∈ TG := List.mem_filter.mpr ⟨List.mem_of_getElem? (i := 544) (by decide +kernel), rfl⟩
theorem wd_545 : Cond.code ⟨"DuelSamples", "sizes", "(I)I"⟩ prog_1_method_19_code 2 (Option.some Jvm.ClassFile.FieldType.int) ∈ TG := List.mem_filter.mpr ⟨List.mem_of_getElem? (i := 545) (by decide +kernel), rfl⟩
theorem wd_546 : Cond.methodLink "DuelSamples" 172 ⟨"DuelSamples$Reach", "fewestUnits", "()I"⟩ ∈ TG := List.mem_filter.mpr ⟨List.mem_of_getElem? (i := 546) (by decide +kernel), rfl⟩
theorem wd_547 : Cond.instanceMethod ⟨"DuelSamples$Reach", "fewestUnits", "()I"⟩ ∈ TG := List.mem_filter.mpr ⟨List.mem_of_getElem? (i := 547) (by decide +kernel), rfl⟩
theorem wd_548 : Cond.selects "DuelSamples$Reach" ⟨"DuelSamples$Reach", "fewestUnits", "()I"⟩ ⟨"DuelSamples$Reach", "fewestUnits", "()I"⟩ ∈ TG := List.mem_filter.mpr ⟨List.mem_of_getElem? (i := 548) (by decide +kernel), rfl⟩
theorem wd_549 : Cond.code ⟨"DuelSamples$Reach", "fewestUnits", "()I"⟩ prog_3_method_7_code 3 (Option.some Jvm.ClassFile.FieldType.int) ∈ TG := List.mem_filter.mpr ⟨List.mem_of_getElem? (i := 549) (by decide +kernel), rfl⟩
theorem wd_550 : Cond.methodLink "DuelSamples$Reach" 79 ⟨"DuelSamples$Reach", "isSeen", "(I)Z"⟩ ∈ TG := List.mem_filter.mpr ⟨List.mem_of_getElem? (i := 550) (by decide +kernel), rfl⟩
theorem wd_552 : Cond.instanceMethod ⟨"DuelSamples$Reach", "isSeen", "(I)Z"⟩ ∈ TG := List.mem_filter.mpr ⟨List.mem_of_getElem? (i := 552) (by decide +kernel), rfl⟩
theorem wd_553 : Cond.code ⟨"DuelSamples$Reach", "isSeen", "(I)Z"⟩ prog_3_method_5_code 2 (Option.some Jvm.ClassFile.FieldType.boolean) ∈ TG := List.mem_filter.mpr ⟨List.mem_of_getElem? (i := 553) (by decide +kernel), rfl⟩
theorem wd_554 : Cond.methodLink "DuelSamples$Reach" 83 ⟨"java/lang/Integer", "bitCount", "(I)I"⟩ ∈ TG := List.mem_filter.mpr ⟨List.mem_of_getElem? (i := 554) (by decide +kernel), rfl⟩
theorem wd_555 : Cond.methodLink "DuelSamples$Reach" 87 ⟨"java/lang/Math", "min", "(II)I"⟩ ∈ TG := List.mem_filter.mpr ⟨List.mem_of_getElem? (i := 555) (by decide +kernel), rfl⟩
theorem wd_556 : Cond.methodLink "DuelSamples" 175 ⟨"DuelSamples$Reach", "mostUnits", "()I"⟩ ∈ TG := List.mem_filter.mpr ⟨List.mem_of_getElem? (i := 556) (by decide +kernel), rfl⟩
theorem wd_557 : Cond.instanceMethod ⟨"DuelSamples$Reach", "mostUnits", "()I"⟩ ∈ TG := List.mem_filter.mpr ⟨List.mem_of_getElem? (i := 557) (by decide +kernel), rfl⟩
theorem wd_558 : Cond.selects "DuelSamples$Reach" ⟨"DuelSamples$Reach", "mostUnits", "()I"⟩ ⟨"DuelSamples$Reach", "mostUnits", "()I"⟩ ∈ TG := List.mem_filter.mpr ⟨List.mem_of_getElem? (i := 558) (by decide +kernel), rfl⟩
theorem wd_559 : Cond.code ⟨"DuelSamples$Reach", "mostUnits", "()I"⟩ prog_3_method_8_code 3 (Option.some Jvm.ClassFile.FieldType.int) ∈ TG := List.mem_filter.mpr ⟨List.mem_of_getElem? (i := 559) (by decide +kernel), rfl⟩
theorem wd_560 : Cond.methodLink "DuelSamples$Reach" 93 ⟨"java/lang/Math", "max", "(II)I"⟩ ∈ TG := List.mem_filter.mpr ⟨List.mem_of_getElem? (i := 560) (by decide +kernel), rfl⟩
theorem wd_561 : Cond.static ⟨"java/lang/Math", "max", "(II)I"⟩ ∈ TG := List.mem_filter.mpr ⟨List.mem_of_getElem? (i := 561) (by decide +kernel), rfl⟩
theorem wd_562 : Cond.code ⟨"java/lang/Math", "max", "(II)I"⟩ prog_11_method_65_code 2 (Option.some Jvm.ClassFile.FieldType.int) ∈ TG := List.mem_filter.mpr ⟨List.mem_of_getElem? (i := 562) (by decide +kernel), rfl⟩
theorem wd_563 : Cond.methodLink "DuelSamplesLaw" 93 ⟨"DuelSamples", "can", "(II)I"⟩ ∈ TG := List.mem_filter.mpr ⟨List.mem_of_getElem? (i := 563) (by decide +kernel), rfl⟩
theorem wd_564 : Cond.instanceMethod ⟨"DuelSamples", "can", "(II)I"⟩ ∈ TG := List.mem_filter.mpr ⟨List.mem_of_getElem? (i := 564) (by decide +kernel), rfl⟩
theorem wd_565 : Cond.selects "DuelSamples" ⟨"DuelSamples", "can", "(II)I"⟩ ⟨"DuelSamples", "can", "(II)I"⟩ ∈ TG := List.mem_filter.mpr ⟨List.mem_of_getElem? (i := 565) (by decide +kernel), rfl⟩
theorem wd_566 : Cond.code ⟨"DuelSamples", "can", "(II)I"⟩ prog_1_method_20_code 3 (Option.some Jvm.ClassFile.FieldType.int) ∈ TG := List.mem_filter.mpr ⟨List.mem_of_getElem? (i := 566) (by decide +kernel), rfl⟩
theorem wd_567 : Cond.methodLink "DuelSamples" 178 ⟨"DuelSamples$Reach", "hasWith", "(I)Z"⟩ ∈ TG := List.mem_filter.mpr ⟨List.mem_of_getElem? (i := 567) (by decide +kernel), rfl⟩
theorem wd_568 : Cond.instanceMethod ⟨"DuelSamples$Reach", "hasWith", "(I)Z"⟩ ∈ TG := List.mem_filter.mpr ⟨List.mem_of_getElem? (i := 568) (by decide +kernel), rfl⟩
theorem wd_569 : Cond.selects "DuelSamples$Reach" ⟨"DuelSamples$Reach", "hasWith", "(I)Z"⟩ ⟨"DuelSamples$Reach", "hasWith", "(I)Z"⟩ ∈ TG := List.mem_filter.mpr ⟨List.mem_of_getElem? (i := 569) (by decide +kernel), rfl⟩
theorem wd_570 : Cond.code ⟨"DuelSamples$Reach", "hasWith", "(I)Z"⟩ prog_3_method_9_code 3 (Option.some Jvm.ClassFile.FieldType.boolean) ∈ TG := List.mem_filter.mpr ⟨List.mem_of_getElem? (i := 570) (by decide +kernel), rfl⟩
theorem wd_571 : Cond.methodLink "DuelSamplesLaw" 97 ⟨"DuelSamples", "least", "()J"⟩ ∈ TG := List.mem_filter.mpr ⟨List.mem_of_getElem? (i := 571) (by decide +kernel), rfl⟩
theorem wd_572 : Cond.instanceMethod ⟨"DuelSamples", "least", "()J"⟩ ∈ TG := List.mem_filter.mpr ⟨List.mem_of_getElem? (i := 572) (by decide +kernel), rfl⟩
theorem wd_573 : Cond.selects "DuelSamples" ⟨"DuelSamples", "least", "()J"⟩ ⟨"DuelSamples", "least", "()J"⟩ ∈ TG := List.mem_filter.mpr ⟨List.mem_of_getElem? (i := 573) (by decide +kernel), rfl⟩
theorem wd_574 : Cond.code ⟨"DuelSamples", "least", "()J"⟩ prog_1_method_21_code 1 (Option.some Jvm.ClassFile.FieldType.long) ∈ TG := List.mem_filter.mpr ⟨List.mem_of_getElem? (i := 574) (by decide +kernel), rfl⟩
theorem wd_575 : Cond.methodLink "DuelSamples" 181 ⟨"DuelSamples$Reach", "leastMiss", "(LDuelSamples$Roster;)J"⟩ ∈ TG := List.mem_filter.mpr ⟨List.mem_of_getElem? (i := 575) (by decide +kernel), rfl⟩
theorem wd_576 : Cond.instanceMethod ⟨"DuelSamples$Reach", "leastMiss", "(LDuelSamples$Roster;)J"⟩ ∈ TG := List.mem_filter.mpr ⟨List.mem_of_getElem? (i := 576) (by decide +kernel), rfl⟩
theorem wd_577 : Cond.selects "DuelSamples$Reach" ⟨"DuelSamples$Reach", "leastMiss", "(LDuelSamples$Roster;)J"⟩ ⟨"DuelSamples$Reach", "leastMiss", "(LDuelSamples$Roster;)J"⟩ ∈ TG := List.mem_filter.mpr ⟨List.mem_of_getElem? (i := 577) (by decide +kernel), rfl⟩
theorem wd_578 : Cond.code ⟨"DuelSamples$Reach", "leastMiss", "(LDuelSamples$Roster;)J"⟩ prog_3_method_10_code 7 (Option.some Jvm.ClassFile.FieldType.long) ∈ TG := List.mem_filter.mpr ⟨List.mem_of_getElem? (i := 578) (by decide +kernel), rfl⟩
theorem wd_579 : Cond.constantLong "DuelSamples$Reach" 96 (-1) ∈ TG := List.mem_filter.mpr ⟨List.mem_of_getElem? (i := 579) (by decide +kernel), rfl⟩
theorem wd_580 : Cond.methodLink "DuelSamples$Reach" 98 ⟨"DuelSamples$Roster", "miss", "(I)J"⟩ ∈ TG := List.mem_filter.mpr ⟨List.mem_of_getElem? (i := 580) (by decide +kernel), rfl⟩
theorem wd_581 : Cond.methodLink "DuelSamples$Reach" 102 ⟨"java/lang/Math", "min", "(JJ)J"⟩ ∈ TG := List.mem_filter.mpr ⟨List.mem_of_getElem? (i := 581) (by decide +kernel), rfl⟩
theorem wd_582 : Cond.static ⟨"java/lang/Math", "min", "(JJ)J"⟩ ∈ TG := List.mem_filter.mpr ⟨List.mem_of_getElem? (i := 582) (by decide +kernel), rfl⟩
theorem wd_583 : Cond.code ⟨"java/lang/Math", "min", "(JJ)J"⟩ prog_11_method_70_code 4 (Option.some Jvm.ClassFile.FieldType.long) ∈ TG := List.mem_filter.mpr ⟨List.mem_of_getElem? (i := 583) (by decide +kernel), rfl⟩
theorem wd_584 : Cond.methodLink "DuelSamplesLaw" 102 ⟨"DuelSamples", "type", "(I)I"⟩ ∈ TG := List.mem_filter.mpr ⟨List.mem_of_getElem? (i := 584) (by decide +kernel), rfl⟩
theorem wd_585 : Cond.instanceMethod ⟨"DuelSamples", "type", "(I)I"⟩ ∈ TG := List.mem_filter.mpr ⟨List.mem_of_getElem? (i := 585) (by decide +kernel), rfl⟩
theorem wd_586 : Cond.selects "DuelSamples" ⟨"DuelSamples", "type", "(I)I"⟩ ⟨"DuelSamples", "type", "(I)I"⟩ ∈ TG := List.mem_filter.mpr ⟨List.mem_of_getElem? (i := 586) (by decide +kernel), rfl⟩
theorem wd_587 : Cond.code ⟨"DuelSamples", "type", "(I)I"⟩ prog_1_method_22_code 2 (Option.some Jvm.ClassFile.FieldType.int) ∈ TG := List.mem_filter.mpr ⟨List.mem_of_getElem? (i := 587) (by decide +kernel), rfl⟩
theorem wd_588 : Cond.methodLink "DuelSamples" 188 ⟨"DuelSamples$Script", "append", "(I)I"⟩ ∈ TG := List.mem_filter.mpr ⟨List.mem_of_getElem? (i := 588) (by decide +kernel), rfl⟩
theorem wd_589 : Cond.instanceMethod ⟨"DuelSamples$Script", "append", "(I)I"⟩ ∈ TG := List.mem_filter.mpr ⟨List.mem_of_getElem? (i := 589) (by decide +kernel), rfl⟩
theorem wd_590 : Cond.selects "DuelSamples$Script" ⟨"DuelSamples$Script", "append", "(I)I"⟩ ⟨"DuelSamples$Script", "append", "(I)I"⟩ ∈ TG := List.mem_filter.mpr ⟨List.mem_of_getElem? (i := 590) (by decide +kernel), rfl⟩
theorem wd_591 : Cond.code ⟨"DuelSamples$Script", "append", "(I)I"⟩ prog_6_method_4_code 2 (Option.some Jvm.ClassFile.FieldType.int) ∈ TG := List.mem_filter.mpr ⟨List.mem_of_getElem? (i := 591) (by decide +kernel), rfl⟩
theorem wd_592 : Cond.methodLink "DuelSamplesLaw" 106 ⟨"DuelSamples", "clear", "()I"⟩ ∈ TG := List.mem_filter.mpr ⟨List.mem_of_getElem? (i := 592) (by decide +kernel), rfl⟩
theorem wd_593 : Cond.instanceMethod ⟨"DuelSamples", "clear", "()I"⟩ ∈ TG := List.mem_filter.mpr ⟨List.mem_of_getElem? (i := 593) (by decide +kernel), rfl⟩
theorem wd_594 : Cond.selects "DuelSamples" ⟨"DuelSamples", "clear", "()I"⟩ ⟨"DuelSamples", "clear", "()I"⟩ ∈ TG := List.mem_filter.mpr ⟨List.mem_of_getElem? (i := 594) (by decide +kernel), rfl⟩
theorem wd_595 : Cond.code ⟨"DuelSamples", "clear", "()I"⟩ prog_1_method_23_code 2 (Option.some Jvm.ClassFile.FieldType.int) ∈ TG := List.mem_filter.mpr ⟨List.mem_of_getElem? (i := 595) (by decide +kernel), rfl⟩
theorem wd_596 : Cond.methodLink "DuelSamplesLaw" 110 ⟨"DuelSamples", "says", "()I"⟩ ∈ TG := List.mem_filter.mpr ⟨List.mem_of_getElem? (i := 596) (by decide +kernel), rfl⟩
theorem wd_597 : Cond.instanceMethod ⟨"DuelSamples", "says", "()I"⟩ ∈ TG := List.mem_filter.mpr ⟨List.mem_of_getElem? (i := 597) (by decide +kernel), rfl⟩
theorem wd_598 : Cond.selects "DuelSamples" ⟨"DuelSamples", "says", "()I"⟩ ⟨"DuelSamples", "says", "()I"⟩ ∈ TG := List.mem_filter.mpr ⟨List.mem_of_getElem? (i := 598) (by decide +kernel), rfl⟩
theorem wd_599 : Cond.code ⟨"DuelSamples", "says", "()I"⟩ prog_1_method_24_code 3 (Option.some Jvm.ClassFile.FieldType.int) ∈ TG := List.mem_filter.mpr ⟨List.mem_of_getElem? (i := 599) (by decide +kernel), rfl⟩
theorem wd_600 : Cond.methodLink "DuelSamples" 190 ⟨"DuelSamples$Script", "read", "(I)I"⟩ ∈ TG := List.mem_filter.mpr ⟨List.mem_of_getElem? (i := 600) (by decide +kernel), rfl⟩
theorem wd_601 : Cond.instanceMethod ⟨"DuelSamples$Script", "read", "(I)I"⟩ ∈ TG := List.mem_filter.mpr ⟨List.mem_of_getElem? (i := 601) (by decide +kernel), rfl⟩
theorem wd_602 : Cond.selects "DuelSamples$Script" ⟨"DuelSamples$Script", "read", "(I)I"⟩ ⟨"DuelSamples$Script", "read", "(I)I"⟩ ∈ TG := List.mem_filter.mpr ⟨List.mem_of_getElem? (i := 602) (by decide +kernel), rfl⟩
theorem wd_603 : Cond.code ⟨"DuelSamples$Script", "read", "(I)I"⟩ prog_6_method_7_code 4 (Option.some Jvm.ClassFile.FieldType.int) ∈ TG := List.mem_filter.mpr ⟨List.mem_of_getElem? (i := 603) (by decide +kernel), rfl⟩
theorem wd_604 : Cond.methodLink "DuelSamples$Script" 63 ⟨"DuelSamples$Script", "skipBlanks", "()V"⟩ ∈ TG := List.mem_filter.mpr ⟨List.mem_of_getElem? (i := 604) (by decide +kernel), rfl⟩
theorem wd_606 : Cond.instanceMethod ⟨"DuelSamples$Script", "skipBlanks", "()V"⟩ ∈ TG := List.mem_filter.mpr ⟨List.mem_of_getElem? (i := 606) (by decide +kernel), rfl⟩
theorem wd_607 : Cond.code ⟨"DuelSamples$Script", "skipBlanks", "()V"⟩ prog_6_method_11_code 2 (Option.none : Option Jvm.ClassFile.FieldType) ∈ TG := List.mem_filter.mpr ⟨List.mem_of_getElem? (i := 607) (by decide +kernel), rfl⟩
theorem wd_608 : Cond.methodLink "DuelSamples$Script" 84 ⟨"DuelSamples$Script", "byteAt", "(I)I"⟩ ∈ TG := List.mem_filter.mpr ⟨List.mem_of_getElem? (i := 608) (by decide +kernel), rfl⟩
theorem wd_610 : Cond.instanceMethod ⟨"DuelSamples$Script", "byteAt", "(I)I"⟩ ∈ TG := List.mem_filter.mpr ⟨List.mem_of_getElem? (i := 610) (by decide +kernel), rfl⟩
theorem wd_611 : Cond.code ⟨"DuelSamples$Script", "byteAt", "(I)I"⟩ prog_6_method_10_code 2 (Option.some Jvm.ClassFile.FieldType.int) ∈ TG := List.mem_filter.mpr ⟨List.mem_of_getElem? (i := 611) (by decide +kernel), rfl⟩
theorem wd_612 : Cond.methodLink "DuelSamples$Script" 66 ⟨"DuelSamples$Script", "readSentence", "()I"⟩ ∈ TG := List.mem_filter.mpr ⟨List.mem_of_getElem? (i := 612) (by decide +kernel), rfl⟩
theorem wd_614 : Cond.instanceMethod ⟨"DuelSamples$Script", "readSentence", "()I"⟩ ∈ TG := List.mem_filter.mpr ⟨List.mem_of_getElem? (i := 614) (by decide +kernel), rfl⟩
theorem wd_615 : Cond.code ⟨"DuelSamples$Script", "readSentence", "()I"⟩ prog_6_method_8_code 6 (Option.some Jvm.ClassFile.FieldType.int) ∈ TG := List.mem_filter.mpr ⟨List.mem_of_getElem? (i := 615) (by decide +kernel), rfl⟩
theorem wd_616 : Cond.methodLink "DuelSamples$Script" 70 ⟨"DuelSamples$Script", "readWord", "()I"⟩ ∈ TG := List.mem_filter.mpr ⟨List.mem_of_getElem? (i := 616) (by decide +kernel), rfl⟩
theorem wd_618 : Cond.instanceMethod ⟨"DuelSamples$Script", "readWord", "()I"⟩ ∈ TG := List.mem_filter.mpr ⟨List.mem_of_getElem? (i := 618) (by decide +kernel), rfl⟩
theorem wd_619 : Cond.code ⟨"DuelSamples$Script", "readWord", "()I"⟩ prog_6_method_12_code 3 (Option.some Jvm.ClassFile.FieldType.int) ∈ TG := List.mem_filter.mpr ⟨List.mem_of_getElem? (i := 619) (by decide +kernel), rfl⟩
theorem wd_620 : Cond.methodLink "DuelSamples$Script" 97 ⟨"DuelSamples$Script", "word", "(I)Ljava/lang/String;"⟩ ∈ TG := List.mem_filter.mpr ⟨List.mem_of_getElem? (i := 620) (by decide +kernel), rfl⟩
theorem wd_621 : Cond.static ⟨"DuelSamples$Script", "word", "(I)Ljava/lang/String;"⟩ ∈ TG := List.mem_filter.mpr ⟨List.mem_of_getElem? (i := 621) (by decide +kernel), rfl⟩
theorem wd_622 : Cond.code ⟨"DuelSamples$Script", "word", "(I)Ljava/lang/String;"⟩ prog_6_method_2_code 1 (Option.some (Jvm.ClassFile.FieldType.object "java/lang/String")) ∈ TG := List.mem_filter.mpr ⟨List.mem_of_getElem? (i := 622) (by decide +kernel), rfl⟩
theorem wd_637 : Cond.methodLink "DuelSamples$Script" 101 ⟨"DuelSamples$Script", "stands", "(Ljava/lang/String;II)Z"⟩ ∈ TG := List.mem_filter.mpr ⟨List.mem_of_getElem? (i := 637) (by decide +kernel), rfl⟩
theorem wd_639 : Cond.instanceMethod ⟨"DuelSamples$Script", "stands", "(Ljava/lang/String;II)Z"⟩ ∈ TG := List.mem_filter.mpr ⟨List.mem_of_getElem? (i := 639) (by decide +kernel), rfl⟩
theorem wd_640 : Cond.code ⟨"DuelSamples$Script", "stands", "(Ljava/lang/String;II)Z"⟩ prog_6_method_13_code 5 (Option.some Jvm.ClassFile.FieldType.boolean) ∈ TG := List.mem_filter.mpr ⟨List.mem_of_getElem? (i := 640) (by decide +kernel), rfl⟩
theorem wd_641 : Cond.methodLink "DuelSamples$Script" 105 ⟨"java/lang/String", "length", "()I"⟩ ∈ TG := List.mem_filter.mpr ⟨List.mem_of_getElem? (i := 641) (by decide +kernel), rfl⟩
theorem wd_642 : Cond.instanceMethod ⟨"java/lang/String", "length", "()I"⟩ ∈ TG := List.mem_filter.mpr ⟨List.mem_of_getElem? (i := 642) (by decide +kernel), rfl⟩
theorem wd_643 : Cond.selects "java/lang/String" ⟨"java/lang/String", "length", "()I"⟩ ⟨"java/lang/String", "length", "()I"⟩ ∈ TG := List.mem_filter.mpr ⟨List.mem_of_getElem? (i := 643) (by decide +kernel), rfl⟩
theorem wd_644 : Cond.code ⟨"java/lang/String", "length", "()I"⟩ prog_12_method_54_code 1 (Option.some Jvm.ClassFile.FieldType.int) ∈ TG := List.mem_filter.mpr ⟨List.mem_of_getElem? (i := 644) (by decide +kernel), rfl⟩
theorem wd_645 : Cond.methodLink "java/lang/String" 335 ⟨"java/lang/String", "coder", "()B"⟩ ∈ TG := List.mem_filter.mpr ⟨List.mem_of_getElem? (i := 645) (by decide +kernel), rfl⟩
theorem wd_646 : Cond.instanceMethod ⟨"java/lang/String", "coder", "()B"⟩ ∈ TG := List.mem_filter.mpr ⟨List.mem_of_getElem? (i := 646) (by decide +kernel), rfl⟩
theorem wd_647 : Cond.selects "java/lang/String" ⟨"java/lang/String", "coder", "()B"⟩ ⟨"java/lang/String", "coder", "()B"⟩ ∈ TG := List.mem_filter.mpr ⟨List.mem_of_getElem? (i := 647) (by decide +kernel), rfl⟩
theorem wd_648 : Cond.code ⟨"java/lang/String", "coder", "()B"⟩ prog_12_method_152_code 1 (Option.some Jvm.ClassFile.FieldType.byte) ∈ TG := List.mem_filter.mpr ⟨List.mem_of_getElem? (i := 648) (by decide +kernel), rfl⟩
theorem wd_649 : Cond.fieldLink "java/lang/String" 38 "java/lang/String" "COMPACT_STRINGS" "Z" ∈ TG := List.mem_filter.mpr ⟨List.mem_of_getElem? (i := 649) (by decide +kernel), rfl⟩
theorem wd_651 : Cond.methodLink "DuelSamples$Script" 109 ⟨"java/lang/String", "charAt", "(I)C"⟩ ∈ TG := List.mem_filter.mpr ⟨List.mem_of_getElem? (i := 651) (by decide +kernel), rfl⟩
theorem wd_652 : Cond.instanceMethod ⟨"java/lang/String", "charAt", "(I)C"⟩ ∈ TG := List.mem_filter.mpr ⟨List.mem_of_getElem? (i := 652) (by decide +kernel), rfl⟩
theorem wd_653 : Cond.selects "java/lang/String" ⟨"java/lang/String", "charAt", "(I)C"⟩ ⟨"java/lang/String", "charAt", "(I)C"⟩ ∈ TG := List.mem_filter.mpr ⟨List.mem_of_getElem? (i := 653) (by decide +kernel), rfl⟩
theorem wd_654 : Cond.code ⟨"java/lang/String", "charAt", "(I)C"⟩ prog_12_method_56_code 2 (Option.some Jvm.ClassFile.FieldType.char) ∈ TG := List.mem_filter.mpr ⟨List.mem_of_getElem? (i := 654) (by decide +kernel), rfl⟩
theorem wd_655 : Cond.methodLink "java/lang/String" 492 ⟨"java/lang/String", "isLatin1", "()Z"⟩ ∈ TG := List.mem_filter.mpr ⟨List.mem_of_getElem? (i := 655) (by decide +kernel), rfl⟩
theorem wd_656 : Cond.instanceMethod ⟨"java/lang/String", "isLatin1", "()Z"⟩ ∈ TG := List.mem_filter.mpr ⟨List.mem_of_getElem? (i := 656) (by decide +kernel), rfl⟩
theorem wd_657 : Cond.selects "java/lang/String" ⟨"java/lang/String", "isLatin1", "()Z"⟩ ⟨"java/lang/String", "isLatin1", "()Z"⟩ ∈ TG := List.mem_filter.mpr ⟨List.mem_of_getElem? (i := 657) (by decide +kernel), rfl⟩
theorem wd_658 : Cond.code ⟨"java/lang/String", "isLatin1", "()Z"⟩ prog_12_method_154_code 1 (Option.some Jvm.ClassFile.FieldType.boolean) ∈ TG := List.mem_filter.mpr ⟨List.mem_of_getElem? (i := 658) (by decide +kernel), rfl⟩
theorem wd_659 : Cond.methodLink "java/lang/String" 495 ⟨"java/lang/StringLatin1", "charAt", "([BI)C"⟩ ∈ TG := List.mem_filter.mpr ⟨List.mem_of_getElem? (i := 659) (by decide +kernel), rfl⟩
theorem wd_660 : Cond.static ⟨"java/lang/StringLatin1", "charAt", "([BI)C"⟩ ∈ TG := List.mem_filter.mpr ⟨List.mem_of_getElem? (i := 660) (by decide +kernel), rfl⟩
theorem wd_661 : Cond.code ⟨"java/lang/StringLatin1", "charAt", "([BI)C"⟩ prog_13_method_2_code 2 (Option.some Jvm.ClassFile.FieldType.char) ∈ TG := List.mem_filter.mpr ⟨List.mem_of_getElem? (i := 661) (by decide +kernel), rfl⟩
theorem wd_662 : Cond.methodLink "java/lang/StringLatin1" 9 ⟨"java/lang/String", "checkIndex", "(II)V"⟩ ∈ TG := List.mem_filter.mpr ⟨List.mem_of_getElem? (i := 662) (by decide +kernel), rfl⟩
theorem wd_663 : Cond.static ⟨"java/lang/String", "checkIndex", "(II)V"⟩ ∈ TG := List.mem_filter.mpr ⟨List.mem_of_getElem? (i := 663) (by decide +kernel), rfl⟩
theorem wd_664 : Cond.code ⟨"java/lang/String", "checkIndex", "(II)V"⟩ prog_12_method_155_code 2 (Option.none : Option Jvm.ClassFile.FieldType) ∈ TG := List.mem_filter.mpr ⟨List.mem_of_getElem? (i := 664) (by decide +kernel), rfl⟩
theorem wd_665 : Cond.fieldLink "java/lang/String" 1053 "jdk/internal/util/Preconditions" "SIOOBE_FORMATTER" "Ljava/util/function/BiFunction;" ∈ TG := List.mem_filter.mpr ⟨List.mem_of_getElem? (i := 665) (by decide +kernel), rfl⟩
theorem wd_667 : Cond.methodLink "java/lang/String" 1059 ⟨"jdk/internal/util/Preconditions", "checkIndex", "(IILjava/util/function/BiFunction;)I"⟩ ∈ TG := List.mem_filter.mpr ⟨List.mem_of_getElem? (i := 667) (by decide +kernel), rfl⟩
theorem wd_668 : Cond.static ⟨"jdk/internal/util/Preconditions", "checkIndex", "(IILjava/util/function/BiFunction;)I"⟩ ∈ TG := List.mem_filter.mpr ⟨List.mem_of_getElem? (i := 668) (by decide +kernel), rfl⟩
theorem wd_669 : Cond.code ⟨"jdk/internal/util/Preconditions", "checkIndex", "(IILjava/util/function/BiFunction;)I"⟩ prog_16_method_11_code 3 (Option.some Jvm.ClassFile.FieldType.int) ∈ TG := List.mem_filter.mpr ⟨List.mem_of_getElem? (i := 669) (by decide +kernel), rfl⟩
theorem wd_670 : Cond.methodLink "java/lang/String" 498 ⟨"java/lang/StringUTF16", "charAt", "([BI)C"⟩ ∈ TG := List.mem_filter.mpr ⟨List.mem_of_getElem? (i := 670) (by decide +kernel), rfl⟩
theorem wd_671 : Cond.static ⟨"java/lang/StringUTF16", "charAt", "([BI)C"⟩ ∈ TG := List.mem_filter.mpr ⟨List.mem_of_getElem? (i := 671) (by decide +kernel), rfl⟩
theorem wd_672 : Cond.code ⟨"java/lang/StringUTF16", "charAt", "([BI)C"⟩ prog_14_method_83_code 2 (Option.some Jvm.ClassFile.FieldType.char) ∈ TG := List.mem_filter.mpr ⟨List.mem_of_getElem? (i := 672) (by decide +kernel), rfl⟩
theorem wd_673 : Cond.methodLink "java/lang/StringUTF16" 67 ⟨"java/lang/StringUTF16", "checkIndex", "(I[B)V"⟩ ∈ TG := List.mem_filter.mpr ⟨List.mem_of_getElem? (i := 673) (by decide +kernel), rfl⟩
theorem wd_674 : Cond.static ⟨"java/lang/StringUTF16", "checkIndex", "(I[B)V"⟩ ∈ TG := List.mem_filter.mpr ⟨List.mem_of_getElem? (i := 674) (by decide +kernel), rfl⟩
theorem wd_675 : Cond.code ⟨"java/lang/StringUTF16", "checkIndex", "(I[B)V"⟩ prog_14_method_91_code 2 (Option.none : Option Jvm.ClassFile.FieldType) ∈ TG := List.mem_filter.mpr ⟨List.mem_of_getElem? (i := 675) (by decide +kernel), rfl⟩
theorem wd_676 : Cond.methodLink "java/lang/StringUTF16" 48 ⟨"java/lang/StringUTF16", "length", "([B)I"⟩ ∈ TG := List.mem_filter.mpr ⟨List.mem_of_getElem? (i := 676) (by decide +kernel), rfl⟩
theorem wd_677 : Cond.static ⟨"java/lang/StringUTF16", "length", "([B)I"⟩ ∈ TG := List.mem_filter.mpr ⟨List.mem_of_getElem? (i := 677) (by decide +kernel), rfl⟩
theorem wd_678 : Cond.code ⟨"java/lang/StringUTF16", "length", "([B)I"⟩ prog_14_method_6_code 1 (Option.some Jvm.ClassFile.FieldType.int) ∈ TG := List.mem_filter.mpr ⟨List.mem_of_getElem? (i := 678) (by decide +kernel), rfl⟩
theorem wd_679 : Cond.methodLink "java/lang/StringUTF16" 414 ⟨"java/lang/String", "checkIndex", "(II)V"⟩ ∈ TG := List.mem_filter.mpr ⟨List.mem_of_getElem? (i := 679) (by decide +kernel), rfl⟩
theorem wd_680 : Cond.methodLink "java/lang/StringUTF16" 71 ⟨"java/lang/StringUTF16", "getChar", "([BI)C"⟩ ∈ TG := List.mem_filter.mpr ⟨List.mem_of_getElem? (i := 680) (by decide +kernel), rfl⟩
theorem wd_681 : Cond.static ⟨"java/lang/StringUTF16", "getChar", "([BI)C"⟩ ∈ TG := List.mem_filter.mpr ⟨List.mem_of_getElem? (i := 681) (by decide +kernel), rfl⟩
theorem wd_682 : Cond.code ⟨"java/lang/StringUTF16", "getChar", "([BI)C"⟩ prog_14_method_5_code 2 (Option.some Jvm.ClassFile.FieldType.char) ∈ TG := List.mem_filter.mpr ⟨List.mem_of_getElem? (i := 682) (by decide +kernel), rfl⟩
theorem wd_683 : Cond.fieldLink "java/lang/StringUTF16" 44 "java/lang/StringUTF16" "$assertionsDisabled" "Z" ∈ TG := List.mem_filter.mpr ⟨List.mem_of_getElem? (i := 683) (by decide +kernel), rfl⟩
theorem wd_685 : Cond.fieldLink "java/lang/StringUTF16" 59 "java/lang/StringUTF16" "HI_BYTE_SHIFT" "I" ∈ TG := List.mem_filter.mpr ⟨List.mem_of_getElem? (i := 685) (by decide +kernel), rfl⟩
theorem wd_687 : Cond.fieldLink "java/lang/StringUTF16" 63 "java/lang/StringUTF16" "LO_BYTE_SHIFT" "I" ∈ TG := List.mem_filter.mpr ⟨List.mem_of_getElem? (i := 687) (by decide +kernel), rfl⟩
theorem wd_689 : Cond.methodLink "DuelSamples$Script" 73 ⟨"DuelSamples$Script", "numbersBehind", "(I)I"⟩ ∈ TG := List.mem_filter.mpr ⟨List.mem_of_getElem? (i := 689) (by decide +kernel), rfl⟩
theorem wd_690 : Cond.static ⟨"DuelSamples$Script", "numbersBehind", "(I)I"⟩ ∈ TG := List.mem_filter.mpr ⟨List.mem_of_getElem? (i := 690) (by decide +kernel), rfl⟩
theorem wd_691 : Cond.code ⟨"DuelSamples$Script", "numbersBehind", "(I)I"⟩ prog_6_method_3_code 1 (Option.some Jvm.ClassFile.FieldType.int) ∈ TG := List.mem_filter.mpr ⟨List.mem_of_getElem? (i := 691) (by decide +kernel), rfl⟩
theorem wd_692 : Cond.methodLink "DuelSamples$Script" 77 ⟨"DuelSamples$Script", "readNumber", "(I)I"⟩ ∈ TG := List.mem_filter.mpr ⟨List.mem_of_getElem? (i := 692) (by decide +kernel), rfl⟩
theorem wd_694 : Cond.instanceMethod ⟨"DuelSamples$Script", "readNumber", "(I)I"⟩ ∈ TG := List.mem_filter.mpr ⟨List.mem_of_getElem? (i := 694) (by decide +kernel), rfl⟩
theorem wd_695 : Cond.code ⟨"DuelSamples$Script", "readNumber", "(I)I"⟩ prog_6_method_14_code 5 (Option.some Jvm.ClassFile.FieldType.int) ∈ TG := List.mem_filter.mpr ⟨List.mem_of_getElem? (i := 695) (by decide +kernel), rfl⟩
theorem wd_696 : Cond.methodLink "DuelSamples$Script" 80 ⟨"DuelSamples$Script", "mayStand", "(III)Z"⟩ ∈ TG := List.mem_filter.mpr ⟨List.mem_of_getElem? (i := 696) (by decide +kernel), rfl⟩
theorem wd_698 : Cond.instanceMethod ⟨"DuelSamples$Script", "mayStand", "(III)Z"⟩ ∈ TG := List.mem_filter.mpr ⟨List.mem_of_getElem? (i := 698) (by decide +kernel), rfl⟩
theorem wd_699 : Cond.code ⟨"DuelSamples$Script", "mayStand", "(III)Z"⟩ prog_6_method_9_code 4 (Option.some Jvm.ClassFile.FieldType.boolean) ∈ TG := List.mem_filter.mpr ⟨List.mem_of_getElem? (i := 699) (by decide +kernel), rfl⟩
theorem wn_700 : Cond.methodLinkNest "DuelSamples$Script" 87 ⟨"DuelSamples", "isSeed", "(I)Z"⟩ "DuelSamples" ∈ NW := List.mem_filter.mpr ⟨List.mem_of_getElem? (i := 700) (by decide +kernel), rfl⟩
theorem wd_701 : Cond.methodLink "DuelSamples$Script" 91 ⟨"DuelSamples$Roster", "fits", "(II)Z"⟩ ∈ TG := List.mem_filter.mpr ⟨List.mem_of_getElem? (i := 701) (by decide +kernel), rfl⟩
theorem wd_702 : Cond.methodLink "DuelSamples" 197 ⟨"DuelSamples$Reply", "put", "(I)V"⟩ ∈ TG := List.mem_filter.mpr ⟨List.mem_of_getElem? (i := 702) (by decide +kernel), rfl⟩
theorem wd_703 : Cond.instanceMethod ⟨"DuelSamples$Reply", "put", "(I)V"⟩ ∈ TG := List.mem_filter.mpr ⟨List.mem_of_getElem? (i := 703) (by decide +kernel), rfl⟩
theorem wd_704 : Cond.selects "DuelSamples$Reply" ⟨"DuelSamples$Reply", "put", "(I)V"⟩ ⟨"DuelSamples$Reply", "put", "(I)V"⟩ ∈ TG := List.mem_filter.mpr ⟨List.mem_of_getElem? (i := 704) (by decide +kernel), rfl⟩
theorem wd_705 : Cond.code ⟨"DuelSamples$Reply", "put", "(I)V"⟩ prog_4_method_3_code 2 (Option.none : Option Jvm.ClassFile.FieldType) ∈ TG := List.mem_filter.mpr ⟨List.mem_of_getElem? (i := 705) (by decide +kernel), rfl⟩
theorem wd_706 : Cond.methodLink "DuelSamples" 201 ⟨"DuelSamples", "perform", "(I)V"⟩ ∈ TG := List.mem_filter.mpr ⟨List.mem_of_getElem? (i := 706) (by decide +kernel), rfl⟩
theorem wd_708 : Cond.instanceMethod ⟨"DuelSamples", "perform", "(I)V"⟩ ∈ TG := List.mem_filter.mpr ⟨List.mem_of_getElem? (i := 708) (by decide +kernel), rfl⟩
theorem wd_709 : Cond.code ⟨"DuelSamples", "perform", "(I)V"⟩ prog_1_method_36_code 3 (Option.none : Option Jvm.ClassFile.FieldType) ∈ TG := List.mem_filter.mpr ⟨List.mem_of_getElem? (i := 709) (by decide +kernel), rfl⟩
theorem wd_710 : Cond.methodLink "DuelSamples" 228 ⟨"DuelSamples$Script", "verb", "(I)I"⟩ ∈ TG := List.mem_filter.mpr ⟨List.mem_of_getElem? (i := 710) (by decide +kernel), rfl⟩
theorem wd_711 : Cond.instanceMethod ⟨"DuelSamples$Script", "verb", "(I)I"⟩ ∈ TG := List.mem_filter.mpr ⟨List.mem_of_getElem? (i := 711) (by decide +kernel), rfl⟩
theorem wd_712 : Cond.selects "DuelSamples$Script" ⟨"DuelSamples$Script", "verb", "(I)I"⟩ ⟨"DuelSamples$Script", "verb", "(I)I"⟩ ∈ TG := List.mem_filter.mpr ⟨List.mem_of_getElem? (i := 712) (by decide +kernel), rfl⟩
theorem wd_713 : Cond.code ⟨"DuelSamples$Script", "verb", "(I)I"⟩ prog_6_method_5_code 2 (Option.some Jvm.ClassFile.FieldType.int) ∈ TG := List.mem_filter.mpr ⟨List.mem_of_getElem? (i := 713) (by decide +kernel), rfl⟩
theorem wd_714 : Cond.methodLink "DuelSamples" 231 ⟨"DuelSamples$Script", "word", "(I)Ljava/lang/String;"⟩ ∈ TG := List.mem_filter.mpr ⟨List.mem_of_getElem? (i := 714) (by decide +kernel), rfl⟩
theorem wd_715 : Cond.methodLink "DuelSamples" 235 ⟨"DuelSamples$Reply", "putWord", "(Ljava/lang/String;)V"⟩ ∈ TG := List.mem_filter.mpr ⟨List.mem_of_getElem? (i := 715) (by decide +kernel), rfl⟩
theorem wd_716 : Cond.instanceMethod ⟨"DuelSamples$Reply", "putWord", "(Ljava/lang/String;)V"⟩ ∈ TG := List.mem_filter.mpr ⟨List.mem_of_getElem? (i := 716) (by decide +kernel), rfl⟩
theorem wd_717 : Cond.selects "DuelSamples$Reply" ⟨"DuelSamples$Reply", "putWord", "(Ljava/lang/String;)V"⟩ ⟨"DuelSamples$Reply", "putWord", "(Ljava/lang/String;)V"⟩ ∈ TG := List.mem_filter.mpr ⟨List.mem_of_getElem? (i := 717) (by decide +kernel), rfl⟩
theorem wd_718 : Cond.code ⟨"DuelSamples$Reply", "putWord", "(Ljava/lang/String;)V"⟩ prog_4_method_4_code 3 (Option.none : Option Jvm.ClassFile.FieldType) ∈ TG := List.mem_filter.mpr ⟨List.mem_of_getElem? (i := 718) (by decide +kernel), rfl⟩
theorem wd_719 : Cond.methodLink "DuelSamples$Reply" 19 ⟨"java/lang/String", "length", "()I"⟩ ∈ TG := List.mem_filter.mpr ⟨List.mem_of_getElem? (i := 719) (by decide +kernel), rfl⟩
theorem wd_720 : Cond.methodLink "DuelSamples$Reply" 24 ⟨"java/lang/String", "charAt", "(I)C"⟩ ∈ TG := List.mem_filter.mpr ⟨List.mem_of_getElem? (i := 720) (by decide +kernel), rfl⟩
theorem wd_721 : Cond.methodLink "DuelSamples$Reply" 28 ⟨"DuelSamples$Reply", "put", "(I)V"⟩ ∈ TG := List.mem_filter.mpr ⟨List.mem_of_getElem? (i := 721) (by decide +kernel), rfl⟩
theorem wd_722 : Cond.methodLink "DuelSamples" 239 ⟨"DuelSamples$Script", "number", "(II)I"⟩ ∈ TG := List.mem_filter.mpr ⟨List.mem_of_getElem? (i := 722) (by decide +kernel), rfl⟩
theorem wd_723 : Cond.instanceMethod ⟨"DuelSamples$Script", "number", "(II)I"⟩ ∈ TG := List.mem_filter.mpr ⟨List.mem_of_getElem? (i := 723) (by decide +kernel), rfl⟩
theorem wd_724 : Cond.selects "DuelSamples$Script" ⟨"DuelSamples$Script", "number", "(II)I"⟩ ⟨"DuelSamples$Script", "number", "(II)I"⟩ ∈ TG := List.mem_filter.mpr ⟨List.mem_of_getElem? (i := 724) (by decide +kernel), rfl⟩
theorem wd_725 : Cond.code ⟨"DuelSamples$Script", "number", "(II)I"⟩ prog_6_method_6_code 4 (Option.some Jvm.ClassFile.FieldType.int) ∈ TG := List.mem_filter.mpr ⟨List.mem_of_getElem? (i := 725) (by decide +kernel), rfl⟩
theorem wd_726 : Cond.methodLink "DuelSamples" 242 ⟨"DuelSamples$Reply", "putNumber", "(I)V"⟩ ∈ TG := List.mem_filter.mpr ⟨List.mem_of_getElem? (i := 726) (by decide +kernel), rfl⟩
theorem wd_727 : Cond.instanceMethod ⟨"DuelSamples$Reply", "putNumber", "(I)V"⟩ ∈ TG := List.mem_filter.mpr ⟨List.mem_of_getElem? (i := 727) (by decide +kernel), rfl⟩
theorem wd_728 : Cond.selects "DuelSamples$Reply" ⟨"DuelSamples$Reply", "putNumber", "(I)V"⟩ ⟨"DuelSamples$Reply", "putNumber", "(I)V"⟩ ∈ TG := List.mem_filter.mpr ⟨List.mem_of_getElem? (i := 728) (by decide +kernel), rfl⟩
theorem wd_729 : Cond.code ⟨"DuelSamples$Reply", "putNumber", "(I)V"⟩ prog_4_method_5_code 2 (Option.none : Option Jvm.ClassFile.FieldType) ∈ TG := List.mem_filter.mpr ⟨List.mem_of_getElem? (i := 729) (by decide +kernel), rfl⟩
theorem wd_730 : Cond.methodLink "DuelSamples" 245 ⟨"DuelSamples$Reply", "putUnits", "(I)V"⟩ ∈ TG := List.mem_filter.mpr ⟨List.mem_of_getElem? (i := 730) (by decide +kernel), rfl⟩
theorem wd_731 : Cond.instanceMethod ⟨"DuelSamples$Reply", "putUnits", "(I)V"⟩ ∈ TG := List.mem_filter.mpr ⟨List.mem_of_getElem? (i := 731) (by decide +kernel), rfl⟩
theorem wd_732 : Cond.selects "DuelSamples$Reply" ⟨"DuelSamples$Reply", "putUnits", "(I)V"⟩ ⟨"DuelSamples$Reply", "putUnits", "(I)V"⟩ ∈ TG := List.mem_filter.mpr ⟨List.mem_of_getElem? (i := 732) (by decide +kernel), rfl⟩
theorem wd_733 : Cond.code ⟨"DuelSamples$Reply", "putUnits", "(I)V"⟩ prog_4_method_6_code 4 (Option.none : Option Jvm.ClassFile.FieldType) ∈ TG := List.mem_filter.mpr ⟨List.mem_of_getElem? (i := 733) (by decide +kernel), rfl⟩
theorem wd_734 : Cond.methodLink "DuelSamples$Reply" 32 ⟨"DuelSamples$Reply", "putNumber", "(I)V"⟩ ∈ TG := List.mem_filter.mpr ⟨List.mem_of_getElem? (i := 734) (by decide +kernel), rfl⟩
theorem wd_735 : Cond.methodLink "DuelSamplesLaw" 114 ⟨"DuelSamples", "answer", "(I)I"⟩ ∈ TG := List.mem_filter.mpr ⟨List.mem_of_getElem? (i := 735) (by decide +kernel), rfl⟩
theorem wd_736 : Cond.instanceMethod ⟨"DuelSamples", "answer", "(I)I"⟩ ∈ TG := List.mem_filter.mpr ⟨List.mem_of_getElem? (i := 736) (by decide +kernel), rfl⟩
theorem wd_737 : Cond.selects "DuelSamples" ⟨"DuelSamples", "answer", "(I)I"⟩ ⟨"DuelSamples", "answer", "(I)I"⟩ ∈ TG := List.mem_filter.mpr ⟨List.mem_of_getElem? (i := 737) (by decide +kernel), rfl⟩
theorem wd_738 : Cond.code ⟨"DuelSamples", "answer", "(I)I"⟩ prog_1_method_25_code 2 (Option.some Jvm.ClassFile.FieldType.int) ∈ TG := List.mem_filter.mpr ⟨List.mem_of_getElem? (i := 738) (by decide +kernel), rfl⟩
theorem wd_739 : Cond.methodLink "DuelSamples" 204 ⟨"DuelSamples$Reply", "sign", "(I)I"⟩ ∈ TG := List.mem_filter.mpr ⟨List.mem_of_getElem? (i := 739) (by decide +kernel), rfl⟩
theorem wd_740 : Cond.instanceMethod ⟨"DuelSamples$Reply", "sign", "(I)I"⟩ ∈ TG := List.mem_filter.mpr ⟨List.mem_of_getElem? (i := 740) (by decide +kernel), rfl⟩
theorem wd_741 : Cond.selects "DuelSamples$Reply" ⟨"DuelSamples$Reply", "sign", "(I)I"⟩ ⟨"DuelSamples$Reply", "sign", "(I)I"⟩ ∈ TG := List.mem_filter.mpr ⟨List.mem_of_getElem? (i := 741) (by decide +kernel), rfl⟩
theorem wd_742 : Cond.code ⟨"DuelSamples$Reply", "sign", "(I)I"⟩ prog_4_method_2_code 2 (Option.some Jvm.ClassFile.FieldType.int) ∈ TG := List.mem_filter.mpr ⟨List.mem_of_getElem? (i := 742) (by decide +kernel), rfl⟩
theorem wd_743 : Cond.methodLink "DuelSamplesLaw" 118 ⟨"DuelSamples", "told", "(I)I"⟩ ∈ TG := List.mem_filter.mpr ⟨List.mem_of_getElem? (i := 743) (by decide +kernel), rfl⟩
theorem wd_744 : Cond.instanceMethod ⟨"DuelSamples", "told", "(I)I"⟩ ∈ TG := List.mem_filter.mpr ⟨List.mem_of_getElem? (i := 744) (by decide +kernel), rfl⟩
theorem wd_745 : Cond.selects "DuelSamples" ⟨"DuelSamples", "told", "(I)I"⟩ ⟨"DuelSamples", "told", "(I)I"⟩ ∈ TG := List.mem_filter.mpr ⟨List.mem_of_getElem? (i := 745) (by decide +kernel), rfl⟩
theorem wd_746 : Cond.code ⟨"DuelSamples", "told", "(I)I"⟩ prog_1_method_26_code 2 (Option.some Jvm.ClassFile.FieldType.int) ∈ TG := List.mem_filter.mpr ⟨List.mem_of_getElem? (i := 746) (by decide +kernel), rfl⟩
theorem wd_747 : Cond.methodLink "DuelSamples" 207 ⟨"DuelSamples", "state", "(I)I"⟩ ∈ TG := List.mem_filter.mpr ⟨List.mem_of_getElem? (i := 747) (by decide +kernel), rfl⟩
theorem wd_749 : Cond.instanceMethod ⟨"DuelSamples", "state", "(I)I"⟩ ∈ TG := List.mem_filter.mpr ⟨List.mem_of_getElem? (i := 749) (by decide +kernel), rfl⟩
theorem wd_750 : Cond.code ⟨"DuelSamples", "state", "(I)I"⟩ prog_1_method_34_code 2 (Option.some Jvm.ClassFile.FieldType.int) ∈ TG := List.mem_filter.mpr ⟨List.mem_of_getElem? (i := 750) (by decide +kernel), rfl⟩
theorem wd_751 : Cond.methodLink "DuelSamplesLaw" 122 ⟨"DuelSamples", "digest", "()J"⟩ ∈ TG := List.mem_filter.mpr ⟨List.mem_of_getElem? (i := 751) (by decide +kernel), rfl⟩
theorem wd_752 : Cond.instanceMethod ⟨"DuelSamples", "digest", "()J"⟩ ∈ TG := List.mem_filter.mpr ⟨List.mem_of_getElem? (i := 752) (by decide +kernel), rfl⟩
theorem wd_753 : Cond.selects "DuelSamples" ⟨"DuelSamples", "digest", "()J"⟩ ⟨"DuelSamples", "digest", "()J"⟩ ∈ TG := List.mem_filter.mpr ⟨List.mem_of_getElem? (i := 753) (by decide +kernel), rfl⟩
theorem wd_754 : Cond.code ⟨"DuelSamples", "digest", "()J"⟩ prog_1_method_27_code 5 (Option.some Jvm.ClassFile.FieldType.long) ∈ TG := List.mem_filter.mpr ⟨List.mem_of_getElem? (i := 754) (by decide +kernel), rfl⟩
theorem wd_755 : Cond.constantLong "DuelSamples" 210 (2029) ∈ TG := List.mem_filter.mpr ⟨List.mem_of_getElem? (i := 755) (by decide +kernel), rfl⟩
theorem wd_756 : Cond.constantLong "DuelSamples" 212 (31) ∈ TG := List.mem_filter.mpr ⟨List.mem_of_getElem? (i := 756) (by decide +kernel), rfl⟩
theorem wd_757 : Cond.classLink "DuelSamplesLaw" 10 "DuelSamplesModel" ∈ TG := List.mem_filter.mpr ⟨List.mem_of_getElem? (i := 757) (by decide +kernel), rfl⟩
theorem wd_758 : Cond.instantiable "DuelSamplesModel" 23 ∈ TG := List.mem_filter.mpr ⟨List.mem_of_getElem? (i := 758) (by decide +kernel), rfl⟩
theorem wd_759 : Cond.methodLink "DuelSamplesLaw" 12 ⟨"DuelSamplesModel", "<init>", "()V"⟩ ∈ TG := List.mem_filter.mpr ⟨List.mem_of_getElem? (i := 759) (by decide +kernel), rfl⟩
theorem wd_760 : Cond.instanceMethod ⟨"DuelSamplesModel", "<init>", "()V"⟩ ∈ TG := List.mem_filter.mpr ⟨List.mem_of_getElem? (i := 760) (by decide +kernel), rfl⟩
theorem wd_761 : Cond.code ⟨"DuelSamplesModel", "<init>", "()V"⟩ prog_8_method_1_code 1 (Option.none : Option Jvm.ClassFile.FieldType) ∈ TG := List.mem_filter.mpr ⟨List.mem_of_getElem? (i := 761) (by decide +kernel), rfl⟩
theorem wd_762 : Cond.methodLink "DuelSamplesModel" 1 ⟨"java/lang/Object", "<init>", "()V"⟩ ∈ TG := List.mem_filter.mpr ⟨List.mem_of_getElem? (i := 762) (by decide +kernel), rfl⟩
theorem wd_763 : Cond.fieldLink "DuelSamplesModel" 7 "DuelSamplesModel" "units" "[I" ∈ TG := List.mem_filter.mpr ⟨List.mem_of_getElem? (i := 763) (by decide +kernel), rfl⟩
theorem wd_764 : Cond.fieldLink "DuelSamplesModel" 38 "DuelSamplesModel" "unitsNow" "I" ∈ TG := List.mem_filter.mpr ⟨List.mem_of_getElem? (i := 764) (by decide +kernel), rfl⟩
theorem wd_765 : Cond.fieldLink "DuelSamplesModel" 134 "DuelSamplesModel" "way" "I" ∈ TG := List.mem_filter.mpr ⟨List.mem_of_getElem? (i := 765) (by decide +kernel), rfl⟩
theorem wd_766 : Cond.fieldLink "DuelSamplesModel" 75 "DuelSamplesModel" "sample" "I" ∈ TG := List.mem_filter.mpr ⟨List.mem_of_getElem? (i := 766) (by decide +kernel), rfl⟩
theorem wd_767 : Cond.fieldLink "DuelSamplesModel" 13 "DuelSamplesModel" "refused" "[I" ∈ TG := List.mem_filter.mpr ⟨List.mem_of_getElem? (i := 767) (by decide +kernel), rfl⟩
theorem wd_768 : Cond.fieldLink "DuelSamplesModel" 16 "DuelSamplesModel" "left" "[I" ∈ TG := List.mem_filter.mpr ⟨List.mem_of_getElem? (i := 768) (by decide +kernel), rfl⟩
theorem wd_769 : Cond.fieldLink "DuelSamplesModel" 146 "DuelSamplesModel" "one" "I" ∈ TG := List.mem_filter.mpr ⟨List.mem_of_getElem? (i := 769) (by decide +kernel), rfl⟩
theorem wd_770 : Cond.fieldLink "DuelSamplesModel" 149 "DuelSamplesModel" "two" "I" ∈ TG := List.mem_filter.mpr ⟨List.mem_of_getElem? (i := 770) (by decide +kernel), rfl⟩
theorem wd_771 : Cond.fieldLink "DuelSamplesModel" 19 "DuelSamplesModel" "played" "[I" ∈ TG := List.mem_filter.mpr ⟨List.mem_of_getElem? (i := 771) (by decide +kernel), rfl⟩
theorem wd_772 : Cond.fieldLink "DuelSamplesModel" 78 "DuelSamplesModel" "plays" "I" ∈ TG := List.mem_filter.mpr ⟨List.mem_of_getElem? (i := 772) (by decide +kernel), rfl⟩
theorem wd_773 : Cond.fieldLink "DuelSamplesModel" 81 "DuelSamplesModel" "low" "I" ∈ TG := List.mem_filter.mpr ⟨List.mem_of_getElem? (i := 773) (by decide +kernel), rfl⟩
theorem wd_774 : Cond.fieldLink "DuelSamplesModel" 84 "DuelSamplesModel" "high" "I" ∈ TG := List.mem_filter.mpr ⟨List.mem_of_getElem? (i := 774) (by decide +kernel), rfl⟩
theorem wd_775 : Cond.fieldLink "DuelSamplesModel" 22 "DuelSamplesModel" "playedNow" "[I" ∈ TG := List.mem_filter.mpr ⟨List.mem_of_getElem? (i := 775) (by decide +kernel), rfl⟩
theorem wd_776 : Cond.fieldLink "DuelSamplesModel" 158 "DuelSamplesModel" "playsNow" "I" ∈ TG := List.mem_filter.mpr ⟨List.mem_of_getElem? (i := 776) (by decide +kernel), rfl⟩
theorem wd_777 : Cond.fieldLink "DuelSamplesModel" 161 "DuelSamplesModel" "lowNow" "I" ∈ TG := List.mem_filter.mpr ⟨List.mem_of_getElem? (i := 777) (by decide +kernel), rfl⟩
theorem wd_778 : Cond.fieldLink "DuelSamplesModel" 164 "DuelSamplesModel" "highNow" "I" ∈ TG := List.mem_filter.mpr ⟨List.mem_of_getElem? (i := 778) (by decide +kernel), rfl⟩
theorem wd_779 : Cond.fieldLink "DuelSamplesModel" 25 "DuelSamplesModel" "canBe" "[Z" ∈ TG := List.mem_filter.mpr ⟨List.mem_of_getElem? (i := 779) (by decide +kernel), rfl⟩
theorem wd_780 : Cond.fieldLink "DuelSamplesModel" 29 "DuelSamplesModel" "text" "[I" ∈ TG := List.mem_filter.mpr ⟨List.mem_of_getElem? (i := 780) (by decide +kernel), rfl⟩
theorem wd_781 : Cond.fieldLink "DuelSamplesModel" 231 "DuelSamplesModel" "textLong" "I" ∈ TG := List.mem_filter.mpr ⟨List.mem_of_getElem? (i := 781) (by decide +kernel), rfl⟩
theorem wd_782 : Cond.fieldLink "DuelSamplesModel" 32 "DuelSamplesModel" "answered" "[I" ∈ TG := List.mem_filter.mpr ⟨List.mem_of_getElem? (i := 782) (by decide +kernel), rfl⟩
theorem wd_783 : Cond.fieldLink "DuelSamplesModel" 234 "DuelSamplesModel" "answerLong" "I" ∈ TG := List.mem_filter.mpr ⟨List.mem_of_getElem? (i := 783) (by decide +kernel), rfl⟩
theorem wd_784 : Cond.fieldLink "DuelSamplesModel" 256 "DuelSamplesModel" "place" "I" ∈ TG := List.mem_filter.mpr ⟨List.mem_of_getElem? (i := 784) (by decide +kernel), rfl⟩
theorem wd_785 : Cond.fieldLink "DuelSamplesModel" 35 "DuelSamplesModel" "numbers" "[I" ∈ TG := List.mem_filter.mpr ⟨List.mem_of_getElem? (i := 785) (by decide +kernel), rfl⟩
theorem wd_833 : Cond.arrayClass .boolean ∈ TG := List.mem_filter.mpr ⟨List.mem_of_getElem? (i := 833) (by decide +kernel), rfl⟩
theorem wd_834 : Cond.methodLink "DuelSamplesLaw" 17 ⟨"DuelSamplesModel", "unit", "(IIIII)I"⟩ ∈ TG := List.mem_filter.mpr ⟨List.mem_of_getElem? (i := 834) (by decide +kernel), rfl⟩
theorem wd_835 : Cond.instanceMethod ⟨"DuelSamplesModel", "unit", "(IIIII)I"⟩ ∈ TG := List.mem_filter.mpr ⟨List.mem_of_getElem? (i := 835) (by decide +kernel), rfl⟩
theorem wd_836 : Cond.selects "DuelSamplesModel" ⟨"DuelSamplesModel", "unit", "(IIIII)I"⟩ ⟨"DuelSamplesModel", "unit", "(IIIII)I"⟩ ∈ TG := List.mem_filter.mpr ⟨List.mem_of_getElem? (i := 836) (by decide +kernel), rfl⟩
theorem wd_837 : Cond.code ⟨"DuelSamplesModel", "unit", "(IIIII)I"⟩ prog_8_method_12_code 6 (Option.some Jvm.ClassFile.FieldType.int) ∈ TG := List.mem_filter.mpr ⟨List.mem_of_getElem? (i := 837) (by decide +kernel), rfl⟩
theorem wd_838 : Cond.methodLink "DuelSamplesModel" 46 ⟨"DuelSamplesModel", "mostOf", "(I)I"⟩ ∈ TG := List.mem_filter.mpr ⟨List.mem_of_getElem? (i := 838) (by decide +kernel), rfl⟩
theorem wd_839 : Cond.static ⟨"DuelSamplesModel", "mostOf", "(I)I"⟩ ∈ TG := List.mem_filter.mpr ⟨List.mem_of_getElem? (i := 839) (by decide +kernel), rfl⟩
theorem wd_840 : Cond.code ⟨"DuelSamplesModel", "mostOf", "(I)I"⟩ prog_8_method_8_code 1 (Option.some Jvm.ClassFile.FieldType.int) ∈ TG := List.mem_filter.mpr ⟨List.mem_of_getElem? (i := 840) (by decide +kernel), rfl⟩
theorem wd_841 : Cond.methodLink "DuelSamplesModel" 42 ⟨"DuelSamplesModel", "in", "(JJJ)Z"⟩ ∈ TG := List.mem_filter.mpr ⟨List.mem_of_getElem? (i := 841) (by decide +kernel), rfl⟩
theorem wd_842 : Cond.static ⟨"DuelSamplesModel", "in", "(JJJ)Z"⟩ ∈ TG := List.mem_filter.mpr ⟨List.mem_of_getElem? (i := 842) (by decide +kernel), rfl⟩
theorem wd_843 : Cond.code ⟨"DuelSamplesModel", "in", "(JJJ)Z"⟩ prog_8_method_3_code 6 (Option.some Jvm.ClassFile.FieldType.boolean) ∈ TG := List.mem_filter.mpr ⟨List.mem_of_getElem? (i := 843) (by decide +kernel), rfl⟩
theorem wd_844 : Cond.methodLink "DuelSamplesModel" 50 ⟨"DuelSamplesModel", "bad", "(I)I"⟩ ∈ TG := List.mem_filter.mpr ⟨List.mem_of_getElem? (i := 844) (by decide +kernel), rfl⟩
theorem wd_846 : Cond.instanceMethod ⟨"DuelSamplesModel", "bad", "(I)I"⟩ ∈ TG := List.mem_filter.mpr ⟨List.mem_of_getElem? (i := 846) (by decide +kernel), rfl⟩
theorem wd_847 : Cond.code ⟨"DuelSamplesModel", "bad", "(I)I"⟩ prog_8_method_4_code 2 (Option.some Jvm.ClassFile.FieldType.int) ∈ TG := List.mem_filter.mpr ⟨List.mem_of_getElem? (i := 847) (by decide +kernel), rfl⟩
theorem wd_848 : Cond.methodLink "DuelSamplesModel" 53 ⟨"DuelSamplesModel", "full", "()I"⟩ ∈ TG := List.mem_filter.mpr ⟨List.mem_of_getElem? (i := 848) (by decide +kernel), rfl⟩
theorem wd_850 : Cond.instanceMethod ⟨"DuelSamplesModel", "full", "()I"⟩ ∈ TG := List.mem_filter.mpr ⟨List.mem_of_getElem? (i := 850) (by decide +kernel), rfl⟩
theorem wd_851 : Cond.code ⟨"DuelSamplesModel", "full", "()I"⟩ prog_8_method_5_code 1 (Option.some Jvm.ClassFile.FieldType.int) ∈ TG := List.mem_filter.mpr ⟨List.mem_of_getElem? (i := 851) (by decide +kernel), rfl⟩
theorem wd_852 : Cond.methodLink "DuelSamplesModel" 57 ⟨"DuelSamplesModel", "lays", "(IIIII)V"⟩ ∈ TG := List.mem_filter.mpr ⟨List.mem_of_getElem? (i := 852) (by decide +kernel), rfl⟩
theorem wd_854 : Cond.instanceMethod ⟨"DuelSamplesModel", "lays", "(IIIII)V"⟩ ∈ TG := List.mem_filter.mpr ⟨List.mem_of_getElem? (i := 854) (by decide +kernel), rfl⟩
theorem wd_855 : Cond.code ⟨"DuelSamplesModel", "lays", "(IIIII)V"⟩ prog_8_method_11_code 7 (Option.none : Option Jvm.ClassFile.FieldType) ∈ TG := List.mem_filter.mpr ⟨List.mem_of_getElem? (i := 855) (by decide +kernel), rfl⟩
theorem wd_856 : Cond.methodLink "DuelSamplesLaw" 22 ⟨"DuelSamplesModel", "sets", "(III)I"⟩ ∈ TG := List.mem_filter.mpr ⟨List.mem_of_getElem? (i := 856) (by decide +kernel), rfl⟩
theorem wd_857 : Cond.instanceMethod ⟨"DuelSamplesModel", "sets", "(III)I"⟩ ∈ TG := List.mem_filter.mpr ⟨List.mem_of_getElem? (i := 857) (by decide +kernel), rfl⟩
theorem wd_858 : Cond.selects "DuelSamplesModel" ⟨"DuelSamplesModel", "sets", "(III)I"⟩ ⟨"DuelSamplesModel", "sets", "(III)I"⟩ ∈ TG := List.mem_filter.mpr ⟨List.mem_of_getElem? (i := 858) (by decide +kernel), rfl⟩
theorem wd_859 : Cond.code ⟨"DuelSamplesModel", "sets", "(III)I"⟩ prog_8_method_14_code 4 (Option.some Jvm.ClassFile.FieldType.int) ∈ TG := List.mem_filter.mpr ⟨List.mem_of_getElem? (i := 859) (by decide +kernel), rfl⟩
theorem wd_860 : Cond.methodLink "DuelSamplesModel" 65 ⟨"DuelSamplesModel", "isUnit", "(I)Z"⟩ ∈ TG := List.mem_filter.mpr ⟨List.mem_of_getElem? (i := 860) (by decide +kernel), rfl⟩
theorem wd_862 : Cond.instanceMethod ⟨"DuelSamplesModel", "isUnit", "(I)Z"⟩ ∈ TG := List.mem_filter.mpr ⟨List.mem_of_getElem? (i := 862) (by decide +kernel), rfl⟩
theorem wd_863 : Cond.code ⟨"DuelSamplesModel", "isUnit", "(I)Z"⟩ prog_8_method_6_code 2 (Option.some Jvm.ClassFile.FieldType.boolean) ∈ TG := List.mem_filter.mpr ⟨List.mem_of_getElem? (i := 863) (by decide +kernel), rfl⟩
theorem wd_864 : Cond.constantLong "DuelSamplesModel" 69 (4) ∈ TG := List.mem_filter.mpr ⟨List.mem_of_getElem? (i := 864) (by decide +kernel), rfl⟩
theorem wd_865 : Cond.methodLink "DuelSamplesModel" 71 ⟨"DuelSamplesModel", "becomes", "(III)I"⟩ ∈ TG := List.mem_filter.mpr ⟨List.mem_of_getElem? (i := 865) (by decide +kernel), rfl⟩
theorem wd_867 : Cond.instanceMethod ⟨"DuelSamplesModel", "becomes", "(III)I"⟩ ∈ TG := List.mem_filter.mpr ⟨List.mem_of_getElem? (i := 867) (by decide +kernel), rfl⟩
theorem wd_868 : Cond.code ⟨"DuelSamplesModel", "becomes", "(III)I"⟩ prog_8_method_13_code 5 (Option.some Jvm.ClassFile.FieldType.int) ∈ TG := List.mem_filter.mpr ⟨List.mem_of_getElem? (i := 868) (by decide +kernel), rfl⟩
theorem wd_869 : Cond.methodLink "DuelSamplesModel" 61 ⟨"DuelSamplesModel", "at", "(II)I"⟩ ∈ TG := List.mem_filter.mpr ⟨List.mem_of_getElem? (i := 869) (by decide +kernel), rfl⟩
theorem wd_871 : Cond.instanceMethod ⟨"DuelSamplesModel", "at", "(II)I"⟩ ∈ TG := List.mem_filter.mpr ⟨List.mem_of_getElem? (i := 871) (by decide +kernel), rfl⟩
theorem wd_872 : Cond.code ⟨"DuelSamplesModel", "at", "(II)I"⟩ prog_8_method_7_code 3 (Option.some Jvm.ClassFile.FieldType.int) ∈ TG := List.mem_filter.mpr ⟨List.mem_of_getElem? (i := 872) (by decide +kernel), rfl⟩
theorem wd_873 : Cond.methodLink "DuelSamplesLaw" 27 ⟨"DuelSamplesModel", "empties", "()I"⟩ ∈ TG := List.mem_filter.mpr ⟨List.mem_of_getElem? (i := 873) (by decide +kernel), rfl⟩
theorem wd_874 : Cond.instanceMethod ⟨"DuelSamplesModel", "empties", "()I"⟩ ∈ TG := List.mem_filter.mpr ⟨List.mem_of_getElem? (i := 874) (by decide +kernel), rfl⟩
theorem wd_875 : Cond.selects "DuelSamplesModel" ⟨"DuelSamplesModel", "empties", "()I"⟩ ⟨"DuelSamplesModel", "empties", "()I"⟩ ∈ TG := List.mem_filter.mpr ⟨List.mem_of_getElem? (i := 875) (by decide +kernel), rfl⟩
theorem wd_876 : Cond.code ⟨"DuelSamplesModel", "empties", "()I"⟩ prog_8_method_16_code 2 (Option.some Jvm.ClassFile.FieldType.int) ∈ TG := List.mem_filter.mpr ⟨List.mem_of_getElem? (i := 876) (by decide +kernel), rfl⟩
theorem wd_877 : Cond.methodLink "DuelSamplesModel" 87 ⟨"DuelSamplesModel", "goesEmpty", "()V"⟩ ∈ TG := List.mem_filter.mpr ⟨List.mem_of_getElem? (i := 877) (by decide +kernel), rfl⟩
theorem wd_879 : Cond.instanceMethod ⟨"DuelSamplesModel", "goesEmpty", "()V"⟩ ∈ TG := List.mem_filter.mpr ⟨List.mem_of_getElem? (i := 879) (by decide +kernel), rfl⟩
theorem wd_880 : Cond.code ⟨"DuelSamplesModel", "goesEmpty", "()V"⟩ prog_8_method_15_code 1 (Option.none : Option Jvm.ClassFile.FieldType) ∈ TG := List.mem_filter.mpr ⟨List.mem_of_getElem? (i := 880) (by decide +kernel), rfl⟩
theorem wd_881 : Cond.methodLink "DuelSamplesLaw" 32 ⟨"DuelSamplesModel", "draw", "(II)I"⟩ ∈ TG := List.mem_filter.mpr ⟨List.mem_of_getElem? (i := 881) (by decide +kernel), rfl⟩
theorem wd_882 : Cond.instanceMethod ⟨"DuelSamplesModel", "draw", "(II)I"⟩ ∈ TG := List.mem_filter.mpr ⟨List.mem_of_getElem? (i := 882) (by decide +kernel), rfl⟩
theorem wd_883 : Cond.selects "DuelSamplesModel" ⟨"DuelSamplesModel", "draw", "(II)I"⟩ ⟨"DuelSamplesModel", "draw", "(II)I"⟩ ∈ TG := List.mem_filter.mpr ⟨List.mem_of_getElem? (i := 883) (by decide +kernel), rfl⟩
theorem wd_884 : Cond.code ⟨"DuelSamplesModel", "draw", "(II)I"⟩ prog_8_method_18_code 7 (Option.some Jvm.ClassFile.FieldType.int) ∈ TG := List.mem_filter.mpr ⟨List.mem_of_getElem? (i := 884) (by decide +kernel), rfl⟩
theorem wd_885 : Cond.constantLong "DuelSamplesModel" 96 (999999) ∈ TG := List.mem_filter.mpr ⟨List.mem_of_getElem? (i := 885) (by decide +kernel), rfl⟩
theorem wd_886 : Cond.constantLong "DuelSamplesModel" 98 (12) ∈ TG := List.mem_filter.mpr ⟨List.mem_of_getElem? (i := 886) (by decide +kernel), rfl⟩
theorem wd_887 : Cond.methodLink "DuelSamplesModel" 100 ⟨"DuelSamplesModel", "next", "(J)J"⟩ ∈ TG := List.mem_filter.mpr ⟨List.mem_of_getElem? (i := 887) (by decide +kernel), rfl⟩
theorem wd_888 : Cond.static ⟨"DuelSamplesModel", "next", "(J)J"⟩ ∈ TG := List.mem_filter.mpr ⟨List.mem_of_getElem? (i := 888) (by decide +kernel), rfl⟩
theorem wd_889 : Cond.code ⟨"DuelSamplesModel", "next", "(J)J"⟩ prog_8_method_17_code 2 (Option.some Jvm.ClassFile.FieldType.long) ∈ TG := List.mem_filter.mpr ⟨List.mem_of_getElem? (i := 889) (by decide +kernel), rfl⟩
theorem wd_890 : Cond.constantLong "DuelSamplesModel" 90 (1103515245) ∈ TG := List.mem_filter.mpr ⟨List.mem_of_getElem? (i := 890) (by decide +kernel), rfl⟩
theorem wd_891 : Cond.constantLong "DuelSamplesModel" 92 (12345) ∈ TG := List.mem_filter.mpr ⟨List.mem_of_getElem? (i := 891) (by decide +kernel), rfl⟩
theorem wd_892 : Cond.constantLong "DuelSamplesModel" 94 (2147483648) ∈ TG := List.mem_filter.mpr ⟨List.mem_of_getElem? (i := 892) (by decide +kernel), rfl⟩
theorem wd_893 : Cond.constantLong "DuelSamplesModel" 104 (65536) ∈ TG := List.mem_filter.mpr ⟨List.mem_of_getElem? (i := 893) (by decide +kernel), rfl⟩
theorem wd_894 : Cond.constantLong "DuelSamplesModel" 106 (13) ∈ TG := List.mem_filter.mpr ⟨List.mem_of_getElem? (i := 894) (by decide +kernel), rfl⟩
theorem wd_895 : Cond.constantLong "DuelSamplesModel" 108 (1024) ∈ TG := List.mem_filter.mpr ⟨List.mem_of_getElem? (i := 895) (by decide +kernel), rfl⟩
theorem wd_896 : Cond.constantLong "DuelSamplesModel" 110 (100) ∈ TG := List.mem_filter.mpr ⟨List.mem_of_getElem? (i := 896) (by decide +kernel), rfl⟩
theorem wd_897 : Cond.constantLong "DuelSamplesModel" 112 (32768) ∈ TG := List.mem_filter.mpr ⟨List.mem_of_getElem? (i := 897) (by decide +kernel), rfl⟩
theorem wd_898 : Cond.constantLong "DuelSamplesModel" 114 (4096) ∈ TG := List.mem_filter.mpr ⟨List.mem_of_getElem? (i := 898) (by decide +kernel), rfl⟩
theorem wd_899 : Cond.constantLong "DuelSamplesModel" 116 (512) ∈ TG := List.mem_filter.mpr ⟨List.mem_of_getElem? (i := 899) (by decide +kernel), rfl⟩
theorem wd_900 : Cond.methodLink "DuelSamplesLaw" 36 ⟨"DuelSamplesModel", "of", "(II)I"⟩ ∈ TG := List.mem_filter.mpr ⟨List.mem_of_getElem? (i := 900) (by decide +kernel), rfl⟩
theorem wd_901 : Cond.instanceMethod ⟨"DuelSamplesModel", "of", "(II)I"⟩ ∈ TG := List.mem_filter.mpr ⟨List.mem_of_getElem? (i := 901) (by decide +kernel), rfl⟩
theorem wd_902 : Cond.selects "DuelSamplesModel" ⟨"DuelSamplesModel", "of", "(II)I"⟩ ⟨"DuelSamplesModel", "of", "(II)I"⟩ ∈ TG := List.mem_filter.mpr ⟨List.mem_of_getElem? (i := 902) (by decide +kernel), rfl⟩
theorem wd_903 : Cond.code ⟨"DuelSamplesModel", "of", "(II)I"⟩ prog_8_method_19_code 3 (Option.some Jvm.ClassFile.FieldType.int) ∈ TG := List.mem_filter.mpr ⟨List.mem_of_getElem? (i := 903) (by decide +kernel), rfl⟩
theorem wd_904 : Cond.constantLong "DuelSamplesModel" 118 (5) ∈ TG := List.mem_filter.mpr ⟨List.mem_of_getElem? (i := 904) (by decide +kernel), rfl⟩
theorem wd_905 : Cond.methodLink "DuelSamplesModel" 120 ⟨"DuelSamplesModel", "has", "(II)Z"⟩ ∈ TG := List.mem_filter.mpr ⟨List.mem_of_getElem? (i := 905) (by decide +kernel), rfl⟩
theorem wd_906 : Cond.static ⟨"DuelSamplesModel", "has", "(II)Z"⟩ ∈ TG := List.mem_filter.mpr ⟨List.mem_of_getElem? (i := 906) (by decide +kernel), rfl⟩
theorem wd_907 : Cond.code ⟨"DuelSamplesModel", "has", "(II)Z"⟩ prog_8_method_9_code 2 (Option.some Jvm.ClassFile.FieldType.boolean) ∈ TG := List.mem_filter.mpr ⟨List.mem_of_getElem? (i := 907) (by decide +kernel), rfl⟩
theorem wd_908 : Cond.methodLink "DuelSamplesLaw" 41 ⟨"DuelSamplesModel", "all", "(I)I"⟩ ∈ TG := List.mem_filter.mpr ⟨List.mem_of_getElem? (i := 908) (by decide +kernel), rfl⟩
theorem wd_909 : Cond.instanceMethod ⟨"DuelSamplesModel", "all", "(I)I"⟩ ∈ TG := List.mem_filter.mpr ⟨List.mem_of_getElem? (i := 909) (by decide +kernel), rfl⟩
theorem wd_910 : Cond.selects "DuelSamplesModel" ⟨"DuelSamplesModel", "all", "(I)I"⟩ ⟨"DuelSamplesModel", "all", "(I)I"⟩ ∈ TG := List.mem_filter.mpr ⟨List.mem_of_getElem? (i := 910) (by decide +kernel), rfl⟩
theorem wd_911 : Cond.code ⟨"DuelSamplesModel", "all", "(I)I"⟩ prog_8_method_22_code 2 (Option.some Jvm.ClassFile.FieldType.int) ∈ TG := List.mem_filter.mpr ⟨List.mem_of_getElem? (i := 911) (by decide +kernel), rfl⟩
theorem wd_912 : Cond.constantLong "DuelSamplesModel" 126 (3) ∈ TG := List.mem_filter.mpr ⟨List.mem_of_getElem? (i := 912) (by decide +kernel), rfl⟩
theorem wd_913 : Cond.methodLink "DuelSamplesModel" 128 ⟨"DuelSamplesModel", "sumOf", "(I)I"⟩ ∈ TG := List.mem_filter.mpr ⟨List.mem_of_getElem? (i := 913) (by decide +kernel), rfl⟩
theorem wd_915 : Cond.instanceMethod ⟨"DuelSamplesModel", "sumOf", "(I)I"⟩ ∈ TG := List.mem_filter.mpr ⟨List.mem_of_getElem? (i := 915) (by decide +kernel), rfl⟩
theorem wd_916 : Cond.code ⟨"DuelSamplesModel", "sumOf", "(I)I"⟩ prog_8_method_20_code 4 (Option.some Jvm.ClassFile.FieldType.int) ∈ TG := List.mem_filter.mpr ⟨List.mem_of_getElem? (i := 916) (by decide +kernel), rfl⟩
theorem wd_917 : Cond.methodLink "DuelSamplesModel" 131 ⟨"DuelSamplesModel", "opens", "()I"⟩ ∈ TG := List.mem_filter.mpr ⟨List.mem_of_getElem? (i := 917) (by decide +kernel), rfl⟩
theorem wd_919 : Cond.instanceMethod ⟨"DuelSamplesModel", "opens", "()I"⟩ ∈ TG := List.mem_filter.mpr ⟨List.mem_of_getElem? (i := 919) (by decide +kernel), rfl⟩
theorem wd_920 : Cond.code ⟨"DuelSamplesModel", "opens", "()I"⟩ prog_8_method_21_code 3 (Option.some Jvm.ClassFile.FieldType.int) ∈ TG := List.mem_filter.mpr ⟨List.mem_of_getElem? (i := 920) (by decide +kernel), rfl⟩
theorem wd_921 : Cond.constantLong "DuelSamplesModel" 124 (11) ∈ TG := List.mem_filter.mpr ⟨List.mem_of_getElem? (i := 921) (by decide +kernel), rfl⟩
theorem wd_922 : Cond.methodLink "DuelSamplesLaw" 45 ⟨"DuelSamplesModel", "method", "(I)I"⟩ ∈ TG := List.mem_filter.mpr ⟨List.mem_of_getElem? (i := 922) (by decide +kernel), rfl⟩
theorem wd_923 : Cond.instanceMethod ⟨"DuelSamplesModel", "method", "(I)I"⟩ ∈ TG := List.mem_filter.mpr ⟨List.mem_of_getElem? (i := 923) (by decide +kernel), rfl⟩
theorem wd_924 : Cond.selects "DuelSamplesModel" ⟨"DuelSamplesModel", "method", "(I)I"⟩ ⟨"DuelSamplesModel", "method", "(I)I"⟩ ∈ TG := List.mem_filter.mpr ⟨List.mem_of_getElem? (i := 924) (by decide +kernel), rfl⟩
theorem wd_925 : Cond.code ⟨"DuelSamplesModel", "method", "(I)I"⟩ prog_8_method_23_code 3 (Option.some Jvm.ClassFile.FieldType.int) ∈ TG := List.mem_filter.mpr ⟨List.mem_of_getElem? (i := 925) (by decide +kernel), rfl⟩
theorem wd_926 : Cond.methodLink "DuelSamplesLaw" 49 ⟨"DuelSamplesModel", "walk", "(I)I"⟩ ∈ TG := List.mem_filter.mpr ⟨List.mem_of_getElem? (i := 926) (by decide +kernel), rfl⟩
theorem wd_927 : Cond.instanceMethod ⟨"DuelSamplesModel", "walk", "(I)I"⟩ ∈ TG := List.mem_filter.mpr ⟨List.mem_of_getElem? (i := 927) (by decide +kernel), rfl⟩
theorem wd_928 : Cond.selects "DuelSamplesModel" ⟨"DuelSamplesModel", "walk", "(I)I"⟩ ⟨"DuelSamplesModel", "walk", "(I)I"⟩ ∈ TG := List.mem_filter.mpr ⟨List.mem_of_getElem? (i := 928) (by decide +kernel), rfl⟩
theorem wd_929 : Cond.code ⟨"DuelSamplesModel", "walk", "(I)I"⟩ prog_8_method_38_code 2 (Option.some Jvm.ClassFile.FieldType.int) ∈ TG := List.mem_filter.mpr ⟨List.mem_of_getElem? (i := 929) (by decide +kernel), rfl⟩
theorem wd_930 : Cond.methodLink "DuelSamplesModel" 193 ⟨"DuelSamplesModel", "isSeed", "(I)Z"⟩ ∈ TG := List.mem_filter.mpr ⟨List.mem_of_getElem? (i := 930) (by decide +kernel), rfl⟩
theorem wd_931 : Cond.static ⟨"DuelSamplesModel", "isSeed", "(I)Z"⟩ ∈ TG := List.mem_filter.mpr ⟨List.mem_of_getElem? (i := 931) (by decide +kernel), rfl⟩
theorem wd_932 : Cond.code ⟨"DuelSamplesModel", "isSeed", "(I)Z"⟩ prog_8_method_37_code 1 (Option.some Jvm.ClassFile.FieldType.boolean) ∈ TG := List.mem_filter.mpr ⟨List.mem_of_getElem? (i := 932) (by decide +kernel), rfl⟩
theorem wd_933 : Cond.methodLink "DuelSamplesModel" 196 ⟨"DuelSamplesModel", "walks", "(I)I"⟩ ∈ TG := List.mem_filter.mpr ⟨List.mem_of_getElem? (i := 933) (by decide +kernel), rfl⟩
theorem wd_935 : Cond.instanceMethod ⟨"DuelSamplesModel", "walks", "(I)I"⟩ ∈ TG := List.mem_filter.mpr ⟨List.mem_of_getElem? (i := 935) (by decide +kernel), rfl⟩
theorem wd_936 : Cond.code ⟨"DuelSamplesModel", "walks", "(I)I"⟩ prog_8_method_36_code 3 (Option.some Jvm.ClassFile.FieldType.int) ∈ TG := List.mem_filter.mpr ⟨List.mem_of_getElem? (i := 936) (by decide +kernel), rfl⟩
theorem wd_937 : Cond.methodLink "DuelSamplesModel" 187 ⟨"DuelSamplesModel", "walked", "(I)I"⟩ ∈ TG := List.mem_filter.mpr ⟨List.mem_of_getElem? (i := 937) (by decide +kernel), rfl⟩
theorem wd_939 : Cond.instanceMethod ⟨"DuelSamplesModel", "walked", "(I)I"⟩ ∈ TG := List.mem_filter.mpr ⟨List.mem_of_getElem? (i := 939) (by decide +kernel), rfl⟩
theorem wd_940 : Cond.code ⟨"DuelSamplesModel", "walked", "(I)I"⟩ prog_8_method_35_code 7 (Option.some Jvm.ClassFile.FieldType.int) ∈ TG := List.mem_filter.mpr ⟨List.mem_of_getElem? (i := 940) (by decide +kernel), rfl⟩
theorem wd_941 : Cond.methodLink "DuelSamplesModel" 167 ⟨"DuelSamplesModel", "begins", "()V"⟩ ∈ TG := List.mem_filter.mpr ⟨List.mem_of_getElem? (i := 941) (by decide +kernel), rfl⟩
theorem wd_943 : Cond.instanceMethod ⟨"DuelSamplesModel", "begins", "()V"⟩ ∈ TG := List.mem_filter.mpr ⟨List.mem_of_getElem? (i := 943) (by decide +kernel), rfl⟩
theorem wd_944 : Cond.code ⟨"DuelSamplesModel", "begins", "()V"⟩ prog_8_method_33_code 2 (Option.none : Option Jvm.ClassFile.FieldType) ∈ TG := List.mem_filter.mpr ⟨List.mem_of_getElem? (i := 944) (by decide +kernel), rfl⟩
theorem wd_945 : Cond.methodLink "DuelSamplesModel" 170 ⟨"DuelSamplesModel", "finds", "()Z"⟩ ∈ TG := List.mem_filter.mpr ⟨List.mem_of_getElem? (i := 945) (by decide +kernel), rfl⟩
theorem wd_947 : Cond.instanceMethod ⟨"DuelSamplesModel", "finds", "()Z"⟩ ∈ TG := List.mem_filter.mpr ⟨List.mem_of_getElem? (i := 947) (by decide +kernel), rfl⟩
theorem wd_948 : Cond.code ⟨"DuelSamplesModel", "finds", "()Z"⟩ prog_8_method_29_code 5 (Option.some Jvm.ClassFile.FieldType.boolean) ∈ TG := List.mem_filter.mpr ⟨List.mem_of_getElem? (i := 948) (by decide +kernel), rfl⟩
theorem wd_949 : Cond.methodLink "DuelSamplesModel" 143 ⟨"DuelSamplesModel", "firstOpen", "(I)I"⟩ ∈ TG := List.mem_filter.mpr ⟨List.mem_of_getElem? (i := 949) (by decide +kernel), rfl⟩
theorem wd_951 : Cond.instanceMethod ⟨"DuelSamplesModel", "firstOpen", "(I)I"⟩ ∈ TG := List.mem_filter.mpr ⟨List.mem_of_getElem? (i := 951) (by decide +kernel), rfl⟩
theorem wd_952 : Cond.code ⟨"DuelSamplesModel", "firstOpen", "(I)I"⟩ prog_8_method_25_code 3 (Option.some Jvm.ClassFile.FieldType.int) ∈ TG := List.mem_filter.mpr ⟨List.mem_of_getElem? (i := 952) (by decide +kernel), rfl⟩
theorem wd_953 : Cond.methodLink "DuelSamplesModel" 137 ⟨"DuelSamplesModel", "isOpen", "(I)Z"⟩ ∈ TG := List.mem_filter.mpr ⟨List.mem_of_getElem? (i := 953) (by decide +kernel), rfl⟩
theorem wd_955 : Cond.instanceMethod ⟨"DuelSamplesModel", "isOpen", "(I)Z"⟩ ∈ TG := List.mem_filter.mpr ⟨List.mem_of_getElem? (i := 955) (by decide +kernel), rfl⟩
theorem wd_956 : Cond.code ⟨"DuelSamplesModel", "isOpen", "(I)Z"⟩ prog_8_method_24_code 2 (Option.some Jvm.ClassFile.FieldType.boolean) ∈ TG := List.mem_filter.mpr ⟨List.mem_of_getElem? (i := 956) (by decide +kernel), rfl⟩
theorem wd_957 : Cond.methodLink "DuelSamplesModel" 152 ⟨"DuelSamplesModel", "bestOf", "(II)I"⟩ ∈ TG := List.mem_filter.mpr ⟨List.mem_of_getElem? (i := 957) (by decide +kernel), rfl⟩
theorem wd_959 : Cond.instanceMethod ⟨"DuelSamplesModel", "bestOf", "(II)I"⟩ ∈ TG := List.mem_filter.mpr ⟨List.mem_of_getElem? (i := 959) (by decide +kernel), rfl⟩
theorem wd_960 : Cond.code ⟨"DuelSamplesModel", "bestOf", "(II)I"⟩ prog_8_method_27_code 8 (Option.some Jvm.ClassFile.FieldType.int) ∈ TG := List.mem_filter.mpr ⟨List.mem_of_getElem? (i := 960) (by decide +kernel), rfl⟩
theorem wd_961 : Cond.methodLink "DuelSamplesModel" 140 ⟨"DuelSamplesModel", "far", "(II)I"⟩ ∈ TG := List.mem_filter.mpr ⟨List.mem_of_getElem? (i := 961) (by decide +kernel), rfl⟩
theorem wd_962 : Cond.static ⟨"DuelSamplesModel", "far", "(II)I"⟩ ∈ TG := List.mem_filter.mpr ⟨List.mem_of_getElem? (i := 962) (by decide +kernel), rfl⟩
theorem wd_963 : Cond.code ⟨"DuelSamplesModel", "far", "(II)I"⟩ prog_8_method_26_code 2 (Option.some Jvm.ClassFile.FieldType.int) ∈ TG := List.mem_filter.mpr ⟨List.mem_of_getElem? (i := 963) (by decide +kernel), rfl⟩
theorem wd_964 : Cond.methodLink "DuelSamplesModel" 155 ⟨"DuelSamplesModel", "nextIn", "(II)I"⟩ ∈ TG := List.mem_filter.mpr ⟨List.mem_of_getElem? (i := 964) (by decide +kernel), rfl⟩
theorem wd_966 : Cond.instanceMethod ⟨"DuelSamplesModel", "nextIn", "(II)I"⟩ ∈ TG := List.mem_filter.mpr ⟨List.mem_of_getElem? (i := 966) (by decide +kernel), rfl⟩
theorem wd_967 : Cond.code ⟨"DuelSamplesModel", "nextIn", "(II)I"⟩ prog_8_method_28_code 4 (Option.some Jvm.ClassFile.FieldType.int) ∈ TG := List.mem_filter.mpr ⟨List.mem_of_getElem? (i := 967) (by decide +kernel), rfl⟩
theorem wd_968 : Cond.methodLink "DuelSamplesModel" 174 ⟨"DuelSamplesModel", "sizeOfPlay", "()I"⟩ ∈ TG := List.mem_filter.mpr ⟨List.mem_of_getElem? (i := 968) (by decide +kernel), rfl⟩
theorem wd_970 : Cond.instanceMethod ⟨"DuelSamplesModel", "sizeOfPlay", "()I"⟩ ∈ TG := List.mem_filter.mpr ⟨List.mem_of_getElem? (i := 970) (by decide +kernel), rfl⟩
theorem wd_971 : Cond.code ⟨"DuelSamplesModel", "sizeOfPlay", "()I"⟩ prog_8_method_30_code 2 (Option.some Jvm.ClassFile.FieldType.int) ∈ TG := List.mem_filter.mpr ⟨List.mem_of_getElem? (i := 971) (by decide +kernel), rfl⟩
theorem wd_972 : Cond.methodLink "DuelSamplesModel" 177 ⟨"DuelSamplesModel", "chancesOfOne", "()I"⟩ ∈ TG := List.mem_filter.mpr ⟨List.mem_of_getElem? (i := 972) (by decide +kernel), rfl⟩
theorem wd_974 : Cond.instanceMethod ⟨"DuelSamplesModel", "chancesOfOne", "()I"⟩ ∈ TG := List.mem_filter.mpr ⟨List.mem_of_getElem? (i := 974) (by decide +kernel), rfl⟩
theorem wd_975 : Cond.code ⟨"DuelSamplesModel", "chancesOfOne", "()I"⟩ prog_8_method_31_code 1 (Option.some Jvm.ClassFile.FieldType.int) ∈ TG := List.mem_filter.mpr ⟨List.mem_of_getElem? (i := 975) (by decide +kernel), rfl⟩
theorem wd_976 : Cond.methodLink "DuelSamplesModel" 180 ⟨"DuelSamplesModel", "gets", "(Z)V"⟩ ∈ TG := List.mem_filter.mpr ⟨List.mem_of_getElem? (i := 976) (by decide +kernel), rfl⟩
theorem wd_978 : Cond.instanceMethod ⟨"DuelSamplesModel", "gets", "(Z)V"⟩ ∈ TG := List.mem_filter.mpr ⟨List.mem_of_getElem? (i := 978) (by decide +kernel), rfl⟩
theorem wd_979 : Cond.code ⟨"DuelSamplesModel", "gets", "(Z)V"⟩ prog_8_method_32_code 4 (Option.none : Option Jvm.ClassFile.FieldType) ∈ TG := List.mem_filter.mpr ⟨List.mem_of_getElem? (i := 979) (by decide +kernel), rfl⟩
theorem wd_980 : Cond.methodLink "DuelSamplesModel" 184 ⟨"DuelSamplesModel", "sampleNow", "()I"⟩ ∈ TG := List.mem_filter.mpr ⟨List.mem_of_getElem? (i := 980) (by decide +kernel), rfl⟩
theorem wd_982 : Cond.instanceMethod ⟨"DuelSamplesModel", "sampleNow", "()I"⟩ ∈ TG := List.mem_filter.mpr ⟨List.mem_of_getElem? (i := 982) (by decide +kernel), rfl⟩
theorem wd_983 : Cond.code ⟨"DuelSamplesModel", "sampleNow", "()I"⟩ prog_8_method_34_code 3 (Option.some Jvm.ClassFile.FieldType.int) ∈ TG := List.mem_filter.mpr ⟨List.mem_of_getElem? (i := 983) (by decide +kernel), rfl⟩
theorem wd_984 : Cond.methodLink "DuelSamplesModel" 190 ⟨"DuelSamplesModel", "bits", "(I)I"⟩ ∈ TG := List.mem_filter.mpr ⟨List.mem_of_getElem? (i := 984) (by decide +kernel), rfl⟩
theorem wd_985 : Cond.static ⟨"DuelSamplesModel", "bits", "(I)I"⟩ ∈ TG := List.mem_filter.mpr ⟨List.mem_of_getElem? (i := 985) (by decide +kernel), rfl⟩
theorem wd_986 : Cond.code ⟨"DuelSamplesModel", "bits", "(I)I"⟩ prog_8_method_10_code 3 (Option.some Jvm.ClassFile.FieldType.int) ∈ TG := List.mem_filter.mpr ⟨List.mem_of_getElem? (i := 986) (by decide +kernel), rfl⟩
theorem wd_987 : Cond.methodLink "DuelSamplesLaw" 53 ⟨"DuelSamplesModel", "was", "(I)I"⟩ ∈ TG := List.mem_filter.mpr ⟨List.mem_of_getElem? (i := 987) (by decide +kernel), rfl⟩
theorem wd_988 : Cond.instanceMethod ⟨"DuelSamplesModel", "was", "(I)I"⟩ ∈ TG := List.mem_filter.mpr ⟨List.mem_of_getElem? (i := 988) (by decide +kernel), rfl⟩
theorem wd_989 : Cond.selects "DuelSamplesModel" ⟨"DuelSamplesModel", "was", "(I)I"⟩ ⟨"DuelSamplesModel", "was", "(I)I"⟩ ∈ TG := List.mem_filter.mpr ⟨List.mem_of_getElem? (i := 989) (by decide +kernel), rfl⟩
theorem wd_990 : Cond.code ⟨"DuelSamplesModel", "was", "(I)I"⟩ prog_8_method_40_code 2 (Option.some Jvm.ClassFile.FieldType.int) ∈ TG := List.mem_filter.mpr ⟨List.mem_of_getElem? (i := 990) (by decide +kernel), rfl⟩
theorem wd_991 : Cond.methodLink "DuelSamplesModel" 199 ⟨"DuelSamplesModel", "wasOf", "(I)I"⟩ ∈ TG := List.mem_filter.mpr ⟨List.mem_of_getElem? (i := 991) (by decide +kernel), rfl⟩
theorem wd_993 : Cond.instanceMethod ⟨"DuelSamplesModel", "wasOf", "(I)I"⟩ ∈ TG := List.mem_filter.mpr ⟨List.mem_of_getElem? (i := 993) (by decide +kernel), rfl⟩
theorem wd_994 : Cond.code ⟨"DuelSamplesModel", "wasOf", "(I)I"⟩ prog_8_method_39_code 2 (Option.some Jvm.ClassFile.FieldType.int) ∈ TG := List.mem_filter.mpr ⟨List.mem_of_getElem? (i := 994) (by decide +kernel), rfl⟩
theorem wd_995 : Cond.methodLink "DuelSamplesLaw" 57 ⟨"DuelSamplesModel", "play", "(II)I"⟩ ∈ TG := List.mem_filter.mpr ⟨List.mem_of_getElem? (i := 995) (by decide +kernel), rfl⟩
theorem wd_996 : Cond.instanceMethod ⟨"DuelSamplesModel", "play", "(II)I"⟩ ∈ TG := List.mem_filter.mpr ⟨List.mem_of_getElem? (i := 996) (by decide +kernel), rfl⟩
theorem wd_997 : Cond.selects "DuelSamplesModel" ⟨"DuelSamplesModel", "play", "(II)I"⟩ ⟨"DuelSamplesModel", "play", "(II)I"⟩ ∈ TG := List.mem_filter.mpr ⟨List.mem_of_getElem? (i := 997) (by decide +kernel), rfl⟩
theorem wd_998 : Cond.code ⟨"DuelSamplesModel", "play", "(II)I"⟩ prog_8_method_41_code 3 (Option.some Jvm.ClassFile.FieldType.int) ∈ TG := List.mem_filter.mpr ⟨List.mem_of_getElem? (i := 998) (by decide +kernel), rfl⟩
theorem wd_999 : Cond.constantLong "DuelSamplesModel" 202 (2) ∈ TG := List.mem_filter.mpr ⟨List.mem_of_getElem? (i := 999) (by decide +kernel), rfl⟩
theorem wd_1000 : Cond.methodLink "DuelSamplesLaw" 62 ⟨"DuelSamplesModel", "counted", "(I)J"⟩ ∈ TG := List.mem_filter.mpr ⟨List.mem_of_getElem? (i := 1000) (by decide +kernel), rfl⟩
theorem wd_1001 : Cond.instanceMethod ⟨"DuelSamplesModel", "counted", "(I)J"⟩ ∈ TG := List.mem_filter.mpr ⟨List.mem_of_getElem? (i := 1001) (by decide +kernel), rfl⟩
theorem wd_1002 : Cond.selects "DuelSamplesModel" ⟨"DuelSamplesModel", "counted", "(I)J"⟩ ⟨"DuelSamplesModel", "counted", "(I)J"⟩ ∈ TG := List.mem_filter.mpr ⟨List.mem_of_getElem? (i := 1002) (by decide +kernel), rfl⟩
theorem wd_1003 : Cond.code ⟨"DuelSamplesModel", "counted", "(I)J"⟩ prog_8_method_44_code 2 (Option.some Jvm.ClassFile.FieldType.long) ∈ TG := List.mem_filter.mpr ⟨List.mem_of_getElem? (i := 1003) (by decide +kernel), rfl⟩
theorem wd_1004 : Cond.methodLink "DuelSamplesModel" 205 ⟨"DuelSamplesModel", "countedUp", "(II)J"⟩ ∈ TG := List.mem_filter.mpr ⟨List.mem_of_getElem? (i := 1004) (by decide +kernel), rfl⟩
theorem wd_1006 : Cond.instanceMethod ⟨"DuelSamplesModel", "countedUp", "(II)J"⟩ ∈ TG := List.mem_filter.mpr ⟨List.mem_of_getElem? (i := 1006) (by decide +kernel), rfl⟩
theorem wd_1007 : Cond.code ⟨"DuelSamplesModel", "countedUp", "(II)J"⟩ prog_8_method_42_code 7 (Option.some Jvm.ClassFile.FieldType.long) ∈ TG := List.mem_filter.mpr ⟨List.mem_of_getElem? (i := 1007) (by decide +kernel), rfl⟩
theorem wd_1008 : Cond.constant "DuelSamplesModel" 204 (332640) ∈ TG := List.mem_filter.mpr ⟨List.mem_of_getElem? (i := 1008) (by decide +kernel), rfl⟩
theorem wd_1009 : Cond.methodLink "DuelSamplesModel" 211 ⟨"DuelSamplesModel", "missOf", "(I)J"⟩ ∈ TG := List.mem_filter.mpr ⟨List.mem_of_getElem? (i := 1009) (by decide +kernel), rfl⟩
theorem wd_1011 : Cond.instanceMethod ⟨"DuelSamplesModel", "missOf", "(I)J"⟩ ∈ TG := List.mem_filter.mpr ⟨List.mem_of_getElem? (i := 1011) (by decide +kernel), rfl⟩
theorem wd_1012 : Cond.code ⟨"DuelSamplesModel", "missOf", "(I)J"⟩ prog_8_method_43_code 4 (Option.some Jvm.ClassFile.FieldType.long) ∈ TG := List.mem_filter.mpr ⟨List.mem_of_getElem? (i := 1012) (by decide +kernel), rfl⟩
theorem wd_1013 : Cond.constantLong "DuelSamplesModel" 209 (27720) ∈ TG := List.mem_filter.mpr ⟨List.mem_of_getElem? (i := 1013) (by decide +kernel), rfl⟩
theorem wd_1014 : Cond.methodLink "DuelSamplesLaw" 66 ⟨"DuelSamplesModel", "inside", "(I)I"⟩ ∈ TG := List.mem_filter.mpr ⟨List.mem_of_getElem? (i := 1014) (by decide +kernel), rfl⟩
theorem wd_1015 : Cond.instanceMethod ⟨"DuelSamplesModel", "inside", "(I)I"⟩ ∈ TG := List.mem_filter.mpr ⟨List.mem_of_getElem? (i := 1015) (by decide +kernel), rfl⟩
theorem wd_1016 : Cond.selects "DuelSamplesModel" ⟨"DuelSamplesModel", "inside", "(I)I"⟩ ⟨"DuelSamplesModel", "inside", "(I)I"⟩ ∈ TG := List.mem_filter.mpr ⟨List.mem_of_getElem? (i := 1016) (by decide +kernel), rfl⟩
theorem wd_1017 : Cond.code ⟨"DuelSamplesModel", "inside", "(I)I"⟩ prog_8_method_45_code 4 (Option.some Jvm.ClassFile.FieldType.int) ∈ TG := List.mem_filter.mpr ⟨List.mem_of_getElem? (i := 1017) (by decide +kernel), rfl⟩
theorem wd_1018 : Cond.methodLink "DuelSamplesLaw" 70 ⟨"DuelSamplesModel", "spread", "()I"⟩ ∈ TG := List.mem_filter.mpr ⟨List.mem_of_getElem? (i := 1018) (by decide +kernel), rfl⟩
theorem wd_1019 : Cond.instanceMethod ⟨"DuelSamplesModel", "spread", "()I"⟩ ∈ TG := List.mem_filter.mpr ⟨List.mem_of_getElem? (i := 1019) (by decide +kernel), rfl⟩
theorem wd_1020 : Cond.selects "DuelSamplesModel" ⟨"DuelSamplesModel", "spread", "()I"⟩ ⟨"DuelSamplesModel", "spread", "()I"⟩ ∈ TG := List.mem_filter.mpr ⟨List.mem_of_getElem? (i := 1020) (by decide +kernel), rfl⟩
theorem wd_1021 : Cond.code ⟨"DuelSamplesModel", "spread", "()I"⟩ prog_8_method_46_code 6 (Option.some Jvm.ClassFile.FieldType.int) ∈ TG := List.mem_filter.mpr ⟨List.mem_of_getElem? (i := 1021) (by decide +kernel), rfl⟩
theorem wd_1022 : Cond.methodLink "DuelSamplesLaw" 79 ⟨"DuelSamplesModel", "both", "(IIII)I"⟩ ∈ TG := List.mem_filter.mpr ⟨List.mem_of_getElem? (i := 1022) (by decide +kernel), rfl⟩
theorem wd_1023 : Cond.instanceMethod ⟨"DuelSamplesModel", "both", "(IIII)I"⟩ ∈ TG := List.mem_filter.mpr ⟨List.mem_of_getElem? (i := 1023) (by decide +kernel), rfl⟩
theorem wd_1024 : Cond.selects "DuelSamplesModel" ⟨"DuelSamplesModel", "both", "(IIII)I"⟩ ⟨"DuelSamplesModel", "both", "(IIII)I"⟩ ∈ TG := List.mem_filter.mpr ⟨List.mem_of_getElem? (i := 1024) (by decide +kernel), rfl⟩
theorem wd_1025 : Cond.code ⟨"DuelSamplesModel", "both", "(IIII)I"⟩ prog_8_method_49_code 5 (Option.some Jvm.ClassFile.FieldType.int) ∈ TG := List.mem_filter.mpr ⟨List.mem_of_getElem? (i := 1025) (by decide +kernel), rfl⟩
theorem wd_1026 : Cond.methodLink "DuelSamplesModel" 218 ⟨"DuelSamplesModel", "areSeeds", "(II)Z"⟩ ∈ TG := List.mem_filter.mpr ⟨List.mem_of_getElem? (i := 1026) (by decide +kernel), rfl⟩
theorem wd_1027 : Cond.static ⟨"DuelSamplesModel", "areSeeds", "(II)Z"⟩ ∈ TG := List.mem_filter.mpr ⟨List.mem_of_getElem? (i := 1027) (by decide +kernel), rfl⟩
theorem wd_1028 : Cond.code ⟨"DuelSamplesModel", "areSeeds", "(II)Z"⟩ prog_8_method_47_code 2 (Option.some Jvm.ClassFile.FieldType.boolean) ∈ TG := List.mem_filter.mpr ⟨List.mem_of_getElem? (i := 1028) (by decide +kernel), rfl⟩
theorem wd_1029 : Cond.constantLong "DuelSamplesModel" 215 (60) ∈ TG := List.mem_filter.mpr ⟨List.mem_of_getElem? (i := 1029) (by decide +kernel), rfl⟩
theorem wd_1030 : Cond.constant "DuelSamplesModel" 217 (1000000) ∈ TG := List.mem_filter.mpr ⟨List.mem_of_getElem? (i := 1030) (by decide +kernel), rfl⟩
theorem wd_1031 : Cond.methodLink "DuelSamplesModel" 221 ⟨"DuelSamplesModel", "howOften", "(III)I"⟩ ∈ TG := List.mem_filter.mpr ⟨List.mem_of_getElem? (i := 1031) (by decide +kernel), rfl⟩
theorem wd_1033 : Cond.instanceMethod ⟨"DuelSamplesModel", "howOften", "(III)I"⟩ ∈ TG := List.mem_filter.mpr ⟨List.mem_of_getElem? (i := 1033) (by decide +kernel), rfl⟩
theorem wd_1034 : Cond.code ⟨"DuelSamplesModel", "howOften", "(III)I"⟩ prog_8_method_48_code 6 (Option.some Jvm.ClassFile.FieldType.int) ∈ TG := List.mem_filter.mpr ⟨List.mem_of_getElem? (i := 1034) (by decide +kernel), rfl⟩
theorem wd_1035 : Cond.methodLink "DuelSamplesLaw" 74 ⟨"DuelSamplesModel", "often", "(III)I"⟩ ∈ TG := List.mem_filter.mpr ⟨List.mem_of_getElem? (i := 1035) (by decide +kernel), rfl⟩
theorem wd_1036 : Cond.instanceMethod ⟨"DuelSamplesModel", "often", "(III)I"⟩ ∈ TG := List.mem_filter.mpr ⟨List.mem_of_getElem? (i := 1036) (by decide +kernel), rfl⟩
theorem wd_1037 : Cond.selects "DuelSamplesModel" ⟨"DuelSamplesModel", "often", "(III)I"⟩ ⟨"DuelSamplesModel", "often", "(III)I"⟩ ∈ TG := List.mem_filter.mpr ⟨List.mem_of_getElem? (i := 1037) (by decide +kernel), rfl⟩
theorem wd_1038 : Cond.code ⟨"DuelSamplesModel", "often", "(III)I"⟩ prog_8_method_50_code 4 (Option.some Jvm.ClassFile.FieldType.int) ∈ TG := List.mem_filter.mpr ⟨List.mem_of_getElem? (i := 1038) (by decide +kernel), rfl⟩
theorem wd_1039 : Cond.methodLink "DuelSamplesLaw" 84 ⟨"DuelSamplesModel", "best", "(III)J"⟩ ∈ TG := List.mem_filter.mpr ⟨List.mem_of_getElem? (i := 1039) (by decide +kernel), rfl⟩
theorem wd_1040 : Cond.instanceMethod ⟨"DuelSamplesModel", "best", "(III)J"⟩ ∈ TG := List.mem_filter.mpr ⟨List.mem_of_getElem? (i := 1040) (by decide +kernel), rfl⟩
theorem wd_1041 : Cond.selects "DuelSamplesModel" ⟨"DuelSamplesModel", "best", "(III)J"⟩ ⟨"DuelSamplesModel", "best", "(III)J"⟩ ∈ TG := List.mem_filter.mpr ⟨List.mem_of_getElem? (i := 1041) (by decide +kernel), rfl⟩
theorem wd_1042 : Cond.code ⟨"DuelSamplesModel", "best", "(III)J"⟩ prog_8_method_51_code 10 (Option.some Jvm.ClassFile.FieldType.long) ∈ TG := List.mem_filter.mpr ⟨List.mem_of_getElem? (i := 1042) (by decide +kernel), rfl⟩
theorem wd_1043 : Cond.methodLink "DuelSamplesLaw" 88 ⟨"DuelSamplesModel", "many", "()I"⟩ ∈ TG := List.mem_filter.mpr ⟨List.mem_of_getElem? (i := 1043) (by decide +kernel), rfl⟩
theorem wd_1044 : Cond.instanceMethod ⟨"DuelSamplesModel", "many", "()I"⟩ ∈ TG := List.mem_filter.mpr ⟨List.mem_of_getElem? (i := 1044) (by decide +kernel), rfl⟩
theorem wd_1045 : Cond.selects "DuelSamplesModel" ⟨"DuelSamplesModel", "many", "()I"⟩ ⟨"DuelSamplesModel", "many", "()I"⟩ ∈ TG := List.mem_filter.mpr ⟨List.mem_of_getElem? (i := 1045) (by decide +kernel), rfl⟩
theorem wd_1046 : Cond.code ⟨"DuelSamplesModel", "many", "()I"⟩ prog_8_method_53_code 3 (Option.some Jvm.ClassFile.FieldType.int) ∈ TG := List.mem_filter.mpr ⟨List.mem_of_getElem? (i := 1046) (by decide +kernel), rfl⟩
theorem wd_1047 : Cond.methodLink "DuelSamplesModel" 224 ⟨"DuelSamplesModel", "layCan", "()V"⟩ ∈ TG := List.mem_filter.mpr ⟨List.mem_of_getElem? (i := 1047) (by decide +kernel), rfl⟩
theorem wd_1049 : Cond.instanceMethod ⟨"DuelSamplesModel", "layCan", "()V"⟩ ∈ TG := List.mem_filter.mpr ⟨List.mem_of_getElem? (i := 1049) (by decide +kernel), rfl⟩
theorem wd_1050 : Cond.code ⟨"DuelSamplesModel", "layCan", "()V"⟩ prog_8_method_52_code 4 (Option.none : Option Jvm.ClassFile.FieldType) ∈ TG := List.mem_filter.mpr ⟨List.mem_of_getElem? (i := 1050) (by decide +kernel), rfl⟩
theorem wd_1051 : Cond.methodLink "DuelSamplesLaw" 92 ⟨"DuelSamplesModel", "sizes", "(I)I"⟩ ∈ TG := List.mem_filter.mpr ⟨List.mem_of_getElem? (i := 1051) (by decide +kernel), rfl⟩
theorem wd_1052 : Cond.instanceMethod ⟨"DuelSamplesModel", "sizes", "(I)I"⟩ ∈ TG := List.mem_filter.mpr ⟨List.mem_of_getElem? (i := 1052) (by decide +kernel), rfl⟩
theorem wd_1053 : Cond.selects "DuelSamplesModel" ⟨"DuelSamplesModel", "sizes", "(I)I"⟩ ⟨"DuelSamplesModel", "sizes", "(I)I"⟩ ∈ TG := List.mem_filter.mpr ⟨List.mem_of_getElem? (i := 1053) (by decide +kernel), rfl⟩
theorem wd_1054 : Cond.code ⟨"DuelSamplesModel", "sizes", "(I)I"⟩ prog_8_method_54_code 5 (Option.some Jvm.ClassFile.FieldType.int) ∈ TG := List.mem_filter.mpr ⟨List.mem_of_getElem? (i := 1054) (by decide +kernel), rfl⟩
theorem wd_1055 : Cond.methodLink "DuelSamplesLaw" 96 ⟨"DuelSamplesModel", "can", "(II)I"⟩ ∈ TG := List.mem_filter.mpr ⟨List.mem_of_getElem? (i := 1055) (by decide +kernel), rfl⟩
theorem wd_1056 : Cond.instanceMethod ⟨"DuelSamplesModel", "can", "(II)I"⟩ ∈ TG := List.mem_filter.mpr ⟨List.mem_of_getElem? (i := 1056) (by decide +kernel), rfl⟩
theorem wd_1057 : Cond.selects "DuelSamplesModel" ⟨"DuelSamplesModel", "can", "(II)I"⟩ ⟨"DuelSamplesModel", "can", "(II)I"⟩ ∈ TG := List.mem_filter.mpr ⟨List.mem_of_getElem? (i := 1057) (by decide +kernel), rfl⟩
theorem wd_1058 : Cond.code ⟨"DuelSamplesModel", "can", "(II)I"⟩ prog_8_method_55_code 6 (Option.some Jvm.ClassFile.FieldType.int) ∈ TG := List.mem_filter.mpr ⟨List.mem_of_getElem? (i := 1058) (by decide +kernel), rfl⟩
theorem wd_1059 : Cond.methodLink "DuelSamplesLaw" 101 ⟨"DuelSamplesModel", "least", "()J"⟩ ∈ TG := List.mem_filter.mpr ⟨List.mem_of_getElem? (i := 1059) (by decide +kernel), rfl⟩
theorem wd_1060 : Cond.instanceMethod ⟨"DuelSamplesModel", "least", "()J"⟩ ∈ TG := List.mem_filter.mpr ⟨List.mem_of_getElem? (i := 1060) (by decide +kernel), rfl⟩
theorem wd_1061 : Cond.selects "DuelSamplesModel" ⟨"DuelSamplesModel", "least", "()J"⟩ ⟨"DuelSamplesModel", "least", "()J"⟩ ∈ TG := List.mem_filter.mpr ⟨List.mem_of_getElem? (i := 1061) (by decide +kernel), rfl⟩
theorem wd_1062 : Cond.code ⟨"DuelSamplesModel", "least", "()J"⟩ prog_8_method_56_code 6 (Option.some Jvm.ClassFile.FieldType.long) ∈ TG := List.mem_filter.mpr ⟨List.mem_of_getElem? (i := 1062) (by decide +kernel), rfl⟩
theorem wd_1063 : Cond.constantLong "DuelSamplesModel" 227 (-1) ∈ TG := List.mem_filter.mpr ⟨List.mem_of_getElem? (i := 1063) (by decide +kernel), rfl⟩
theorem wd_1064 : Cond.methodLink "DuelSamplesLaw" 105 ⟨"DuelSamplesModel", "type", "(I)I"⟩ ∈ TG := List.mem_filter.mpr ⟨List.mem_of_getElem? (i := 1064) (by decide +kernel), rfl⟩
theorem wd_1065 : Cond.instanceMethod ⟨"DuelSamplesModel", "type", "(I)I"⟩ ∈ TG := List.mem_filter.mpr ⟨List.mem_of_getElem? (i := 1065) (by decide +kernel), rfl⟩
theorem wd_1066 : Cond.selects "DuelSamplesModel" ⟨"DuelSamplesModel", "type", "(I)I"⟩ ⟨"DuelSamplesModel", "type", "(I)I"⟩ ∈ TG := List.mem_filter.mpr ⟨List.mem_of_getElem? (i := 1066) (by decide +kernel), rfl⟩
theorem wd_1067 : Cond.code ⟨"DuelSamplesModel", "type", "(I)I"⟩ prog_8_method_57_code 2 (Option.some Jvm.ClassFile.FieldType.int) ∈ TG := List.mem_filter.mpr ⟨List.mem_of_getElem? (i := 1067) (by decide +kernel), rfl⟩
theorem wd_1068 : Cond.constantLong "DuelSamplesModel" 229 (127) ∈ TG := List.mem_filter.mpr ⟨List.mem_of_getElem? (i := 1068) (by decide +kernel), rfl⟩
theorem wd_1069 : Cond.methodLink "DuelSamplesLaw" 109 ⟨"DuelSamplesModel", "clear", "()I"⟩ ∈ TG := List.mem_filter.mpr ⟨List.mem_of_getElem? (i := 1069) (by decide +kernel), rfl⟩
theorem wd_1070 : Cond.instanceMethod ⟨"DuelSamplesModel", "clear", "()I"⟩ ∈ TG := List.mem_filter.mpr ⟨List.mem_of_getElem? (i := 1070) (by decide +kernel), rfl⟩
theorem wd_1071 : Cond.selects "DuelSamplesModel" ⟨"DuelSamplesModel", "clear", "()I"⟩ ⟨"DuelSamplesModel", "clear", "()I"⟩ ∈ TG := List.mem_filter.mpr ⟨List.mem_of_getElem? (i := 1071) (by decide +kernel), rfl⟩
theorem wd_1072 : Cond.code ⟨"DuelSamplesModel", "clear", "()I"⟩ prog_8_method_58_code 2 (Option.some Jvm.ClassFile.FieldType.int) ∈ TG := List.mem_filter.mpr ⟨List.mem_of_getElem? (i := 1072) (by decide +kernel), rfl⟩
theorem wd_1073 : Cond.methodLink "DuelSamplesLaw" 113 ⟨"DuelSamplesModel", "says", "()I"⟩ ∈ TG := List.mem_filter.mpr ⟨List.mem_of_getElem? (i := 1073) (by decide +kernel), rfl⟩
theorem wd_1074 : Cond.instanceMethod ⟨"DuelSamplesModel", "says", "()I"⟩ ∈ TG := List.mem_filter.mpr ⟨List.mem_of_getElem? (i := 1074) (by decide +kernel), rfl⟩
theorem wd_1075 : Cond.selects "DuelSamplesModel" ⟨"DuelSamplesModel", "says", "()I"⟩ ⟨"DuelSamplesModel", "says", "()I"⟩ ∈ TG := List.mem_filter.mpr ⟨List.mem_of_getElem? (i := 1075) (by decide +kernel), rfl⟩
theorem wd_1076 : Cond.code ⟨"DuelSamplesModel", "says", "()I"⟩ prog_8_method_75_code 1 (Option.some Jvm.ClassFile.FieldType.int) ∈ TG := List.mem_filter.mpr ⟨List.mem_of_getElem? (i := 1076) (by decide +kernel), rfl⟩
theorem wd_1077 : Cond.methodLink "DuelSamplesModel" 294 ⟨"DuelSamplesModel", "goesThrough", "(Z)I"⟩ ∈ TG := List.mem_filter.mpr ⟨List.mem_of_getElem? (i := 1077) (by decide +kernel), rfl⟩
theorem wd_1079 : Cond.instanceMethod ⟨"DuelSamplesModel", "goesThrough", "(Z)I"⟩ ∈ TG := List.mem_filter.mpr ⟨List.mem_of_getElem? (i := 1079) (by decide +kernel), rfl⟩
theorem wd_1080 : Cond.code ⟨"DuelSamplesModel", "goesThrough", "(Z)I"⟩ prog_8_method_74_code 6 (Option.some Jvm.ClassFile.FieldType.int) ∈ TG := List.mem_filter.mpr ⟨List.mem_of_getElem? (i := 1080) (by decide +kernel), rfl⟩
theorem wd_1081 : Cond.methodLink "DuelSamplesModel" 259 ⟨"DuelSamplesModel", "skip", "()V"⟩ ∈ TG := List.mem_filter.mpr ⟨List.mem_of_getElem? (i := 1081) (by decide +kernel), rfl⟩
theorem wd_1083 : Cond.instanceMethod ⟨"DuelSamplesModel", "skip", "()V"⟩ ∈ TG := List.mem_filter.mpr ⟨List.mem_of_getElem? (i := 1083) (by decide +kernel), rfl⟩
theorem wd_1084 : Cond.code ⟨"DuelSamplesModel", "skip", "()V"⟩ prog_8_method_65_code 1 (Option.none : Option Jvm.ClassFile.FieldType) ∈ TG := List.mem_filter.mpr ⟨List.mem_of_getElem? (i := 1084) (by decide +kernel), rfl⟩
theorem wd_1085 : Cond.methodLink "DuelSamplesModel" 288 ⟨"DuelSamplesModel", "reads", "(I)I"⟩ ∈ TG := List.mem_filter.mpr ⟨List.mem_of_getElem? (i := 1085) (by decide +kernel), rfl⟩
theorem wd_1087 : Cond.instanceMethod ⟨"DuelSamplesModel", "reads", "(I)I"⟩ ∈ TG := List.mem_filter.mpr ⟨List.mem_of_getElem? (i := 1087) (by decide +kernel), rfl⟩
theorem wd_1088 : Cond.code ⟨"DuelSamplesModel", "reads", "(I)I"⟩ prog_8_method_71_code 6 (Option.some Jvm.ClassFile.FieldType.int) ∈ TG := List.mem_filter.mpr ⟨List.mem_of_getElem? (i := 1088) (by decide +kernel), rfl⟩
theorem wd_1089 : Cond.methodLink "DuelSamplesModel" 267 ⟨"DuelSamplesModel", "takesWord", "()I"⟩ ∈ TG := List.mem_filter.mpr ⟨List.mem_of_getElem? (i := 1089) (by decide +kernel), rfl⟩
theorem wd_1091 : Cond.instanceMethod ⟨"DuelSamplesModel", "takesWord", "()I"⟩ ∈ TG := List.mem_filter.mpr ⟨List.mem_of_getElem? (i := 1091) (by decide +kernel), rfl⟩
theorem wd_1092 : Cond.code ⟨"DuelSamplesModel", "takesWord", "()I"⟩ prog_8_method_67_code 6 (Option.some Jvm.ClassFile.FieldType.int) ∈ TG := List.mem_filter.mpr ⟨List.mem_of_getElem? (i := 1092) (by decide +kernel), rfl⟩
theorem wd_1093 : Cond.methodLink "DuelSamplesModel" 262 ⟨"DuelSamplesModel", "isByte", "(III)Z"⟩ ∈ TG := List.mem_filter.mpr ⟨List.mem_of_getElem? (i := 1093) (by decide +kernel), rfl⟩
theorem wd_1095 : Cond.instanceMethod ⟨"DuelSamplesModel", "isByte", "(III)Z"⟩ ∈ TG := List.mem_filter.mpr ⟨List.mem_of_getElem? (i := 1095) (by decide +kernel), rfl⟩
theorem wd_1096 : Cond.code ⟨"DuelSamplesModel", "isByte", "(III)Z"⟩ prog_8_method_66_code 4 (Option.some Jvm.ClassFile.FieldType.boolean) ∈ TG := List.mem_filter.mpr ⟨List.mem_of_getElem? (i := 1096) (by decide +kernel), rfl⟩
theorem wd_1097 : Cond.methodLink "DuelSamplesModel" 249 ⟨"DuelSamplesModel", "by27", "(JI)J"⟩ ∈ TG := List.mem_filter.mpr ⟨List.mem_of_getElem? (i := 1097) (by decide +kernel), rfl⟩
theorem wd_1098 : Cond.static ⟨"DuelSamplesModel", "by27", "(JI)J"⟩ ∈ TG := List.mem_filter.mpr ⟨List.mem_of_getElem? (i := 1098) (by decide +kernel), rfl⟩
theorem wd_1099 : Cond.code ⟨"DuelSamplesModel", "by27", "(JI)J"⟩ prog_8_method_62_code 3 (Option.some Jvm.ClassFile.FieldType.long) ∈ TG := List.mem_filter.mpr ⟨List.mem_of_getElem? (i := 1099) (by decide +kernel), rfl⟩
theorem wd_1100 : Cond.constantLong "DuelSamplesModel" 245 (27) ∈ TG := List.mem_filter.mpr ⟨List.mem_of_getElem? (i := 1100) (by decide +kernel), rfl⟩
theorem wd_1101 : Cond.constantLong "DuelSamplesModel" 247 (97) ∈ TG := List.mem_filter.mpr ⟨List.mem_of_getElem? (i := 1101) (by decide +kernel), rfl⟩
theorem wd_1102 : Cond.methodLink "DuelSamplesModel" 253 ⟨"DuelSamplesModel", "letters", "(I)J"⟩ ∈ TG := List.mem_filter.mpr ⟨List.mem_of_getElem? (i := 1102) (by decide +kernel), rfl⟩
theorem wd_1103 : Cond.static ⟨"DuelSamplesModel", "letters", "(I)J"⟩ ∈ TG := List.mem_filter.mpr ⟨List.mem_of_getElem? (i := 1103) (by decide +kernel), rfl⟩
theorem wd_1104 : Cond.code ⟨"DuelSamplesModel", "letters", "(I)J"⟩ prog_8_method_61_code 1 (Option.some Jvm.ClassFile.FieldType.long) ∈ TG := List.mem_filter.mpr ⟨List.mem_of_getElem? (i := 1104) (by decide +kernel), rfl⟩
theorem wd_1105 : Cond.methodLink "DuelSamplesModel" 241 ⟨"DuelSamplesModel", "spells", "(IIIIIII)J"⟩ ∈ TG := List.mem_filter.mpr ⟨List.mem_of_getElem? (i := 1105) (by decide +kernel), rfl⟩
theorem wd_1106 : Cond.static ⟨"DuelSamplesModel", "spells", "(IIIIIII)J"⟩ ∈ TG := List.mem_filter.mpr ⟨List.mem_of_getElem? (i := 1106) (by decide +kernel), rfl⟩
theorem wd_1107 : Cond.code ⟨"DuelSamplesModel", "spells", "(IIIIIII)J"⟩ prog_8_method_63_code 7 (Option.some Jvm.ClassFile.FieldType.long) ∈ TG := List.mem_filter.mpr ⟨List.mem_of_getElem? (i := 1107) (by decide +kernel), rfl⟩
theorem wd_1108 : Cond.methodLink "DuelSamplesModel" 270 ⟨"DuelSamplesModel", "argsOf", "(I)I"⟩ ∈ TG := List.mem_filter.mpr ⟨List.mem_of_getElem? (i := 1108) (by decide +kernel), rfl⟩
theorem wd_1110 : Cond.instanceMethod ⟨"DuelSamplesModel", "argsOf", "(I)I"⟩ ∈ TG := List.mem_filter.mpr ⟨List.mem_of_getElem? (i := 1110) (by decide +kernel), rfl⟩
theorem wd_1111 : Cond.code ⟨"DuelSamplesModel", "argsOf", "(I)I"⟩ prog_8_method_69_code 2 (Option.some Jvm.ClassFile.FieldType.int) ∈ TG := List.mem_filter.mpr ⟨List.mem_of_getElem? (i := 1111) (by decide +kernel), rfl⟩
theorem wd_1112 : Cond.methodLink "DuelSamplesModel" 273 ⟨"DuelSamplesModel", "mostAt", "(III)I"⟩ ∈ TG := List.mem_filter.mpr ⟨List.mem_of_getElem? (i := 1112) (by decide +kernel), rfl⟩
theorem wd_1114 : Cond.instanceMethod ⟨"DuelSamplesModel", "mostAt", "(III)I"⟩ ∈ TG := List.mem_filter.mpr ⟨List.mem_of_getElem? (i := 1114) (by decide +kernel), rfl⟩
theorem wd_1115 : Cond.code ⟨"DuelSamplesModel", "mostAt", "(III)I"⟩ prog_8_method_70_code 4 (Option.some Jvm.ClassFile.FieldType.int) ∈ TG := List.mem_filter.mpr ⟨List.mem_of_getElem? (i := 1115) (by decide +kernel), rfl⟩
theorem wd_1116 : Cond.constant "DuelSamplesModel" 266 (999999) ∈ TG := List.mem_filter.mpr ⟨List.mem_of_getElem? (i := 1116) (by decide +kernel), rfl⟩
theorem wd_1117 : Cond.methodLink "DuelSamplesModel" 276 ⟨"DuelSamplesModel", "takesNumber", "(II)I"⟩ ∈ TG := List.mem_filter.mpr ⟨List.mem_of_getElem? (i := 1117) (by decide +kernel), rfl⟩
theorem wd_1119 : Cond.instanceMethod ⟨"DuelSamplesModel", "takesNumber", "(II)I"⟩ ∈ TG := List.mem_filter.mpr ⟨List.mem_of_getElem? (i := 1119) (by decide +kernel), rfl⟩
theorem wd_1120 : Cond.code ⟨"DuelSamplesModel", "takesNumber", "(II)I"⟩ prog_8_method_68_code 6 (Option.some Jvm.ClassFile.FieldType.int) ∈ TG := List.mem_filter.mpr ⟨List.mem_of_getElem? (i := 1120) (by decide +kernel), rfl⟩
theorem wd_1121 : Cond.methodLink "DuelSamplesModel" 237 ⟨"DuelSamplesModel", "tells", "(I)V"⟩ ∈ TG := List.mem_filter.mpr ⟨List.mem_of_getElem? (i := 1121) (by decide +kernel), rfl⟩
theorem wd_1123 : Cond.instanceMethod ⟨"DuelSamplesModel", "tells", "(I)V"⟩ ∈ TG := List.mem_filter.mpr ⟨List.mem_of_getElem? (i := 1123) (by decide +kernel), rfl⟩
theorem wd_1124 : Cond.code ⟨"DuelSamplesModel", "tells", "(I)V"⟩ prog_8_method_59_code 2 (Option.none : Option Jvm.ClassFile.FieldType) ∈ TG := List.mem_filter.mpr ⟨List.mem_of_getElem? (i := 1124) (by decide +kernel), rfl⟩
theorem wd_1125 : Cond.methodLink "DuelSamplesModel" 291 ⟨"DuelSamplesModel", "does", "(I)V"⟩ ∈ TG := List.mem_filter.mpr ⟨List.mem_of_getElem? (i := 1125) (by decide +kernel), rfl⟩
theorem wd_1127 : Cond.instanceMethod ⟨"DuelSamplesModel", "does", "(I)V"⟩ ∈ TG := List.mem_filter.mpr ⟨List.mem_of_getElem? (i := 1127) (by decide +kernel), rfl⟩
theorem wd_1128 : Cond.code ⟨"DuelSamplesModel", "does", "(I)V"⟩ prog_8_method_73_code 3 (Option.none : Option Jvm.ClassFile.FieldType) ∈ TG := List.mem_filter.mpr ⟨List.mem_of_getElem? (i := 1128) (by decide +kernel), rfl⟩
theorem wd_1129 : Cond.methodLink "DuelSamplesModel" 282 ⟨"DuelSamplesModel", "tellsWord", "(I)V"⟩ ∈ TG := List.mem_filter.mpr ⟨List.mem_of_getElem? (i := 1129) (by decide +kernel), rfl⟩
theorem wd_1131 : Cond.instanceMethod ⟨"DuelSamplesModel", "tellsWord", "(I)V"⟩ ∈ TG := List.mem_filter.mpr ⟨List.mem_of_getElem? (i := 1131) (by decide +kernel), rfl⟩
theorem wd_1132 : Cond.code ⟨"DuelSamplesModel", "tellsWord", "(I)V"⟩ prog_8_method_64_code 6 (Option.none : Option Jvm.ClassFile.FieldType) ∈ TG := List.mem_filter.mpr ⟨List.mem_of_getElem? (i := 1132) (by decide +kernel), rfl⟩
theorem wd_1133 : Cond.methodLink "DuelSamplesModel" 279 ⟨"DuelSamplesModel", "tellsNumber", "(I)V"⟩ ∈ TG := List.mem_filter.mpr ⟨List.mem_of_getElem? (i := 1133) (by decide +kernel), rfl⟩
theorem wd_1135 : Cond.instanceMethod ⟨"DuelSamplesModel", "tellsNumber", "(I)V"⟩ ∈ TG := List.mem_filter.mpr ⟨List.mem_of_getElem? (i := 1135) (by decide +kernel), rfl⟩
theorem wd_1136 : Cond.code ⟨"DuelSamplesModel", "tellsNumber", "(I)V"⟩ prog_8_method_60_code 2 (Option.none : Option Jvm.ClassFile.FieldType) ∈ TG := List.mem_filter.mpr ⟨List.mem_of_getElem? (i := 1136) (by decide +kernel), rfl⟩
theorem wd_1137 : Cond.methodLink "DuelSamplesModel" 285 ⟨"DuelSamplesModel", "tellsSample", "()V"⟩ ∈ TG := List.mem_filter.mpr ⟨List.mem_of_getElem? (i := 1137) (by decide +kernel), rfl⟩
theorem wd_1139 : Cond.instanceMethod ⟨"DuelSamplesModel", "tellsSample", "()V"⟩ ∈ TG := List.mem_filter.mpr ⟨List.mem_of_getElem? (i := 1139) (by decide +kernel), rfl⟩
theorem wd_1140 : Cond.code ⟨"DuelSamplesModel", "tellsSample", "()V"⟩ prog_8_method_72_code 3 (Option.none : Option Jvm.ClassFile.FieldType) ∈ TG := List.mem_filter.mpr ⟨List.mem_of_getElem? (i := 1140) (by decide +kernel), rfl⟩
theorem wd_1141 : Cond.methodLink "DuelSamplesLaw" 117 ⟨"DuelSamplesModel", "answer", "(I)I"⟩ ∈ TG := List.mem_filter.mpr ⟨List.mem_of_getElem? (i := 1141) (by decide +kernel), rfl⟩
theorem wd_1142 : Cond.instanceMethod ⟨"DuelSamplesModel", "answer", "(I)I"⟩ ∈ TG := List.mem_filter.mpr ⟨List.mem_of_getElem? (i := 1142) (by decide +kernel), rfl⟩
theorem wd_1143 : Cond.selects "DuelSamplesModel" ⟨"DuelSamplesModel", "answer", "(I)I"⟩ ⟨"DuelSamplesModel", "answer", "(I)I"⟩ ∈ TG := List.mem_filter.mpr ⟨List.mem_of_getElem? (i := 1143) (by decide +kernel), rfl⟩
theorem wd_1144 : Cond.code ⟨"DuelSamplesModel", "answer", "(I)I"⟩ prog_8_method_76_code 2 (Option.some Jvm.ClassFile.FieldType.int) ∈ TG := List.mem_filter.mpr ⟨List.mem_of_getElem? (i := 1144) (by decide +kernel), rfl⟩
theorem wd_1145 : Cond.methodLink "DuelSamplesLaw" 121 ⟨"DuelSamplesModel", "told", "(I)I"⟩ ∈ TG := List.mem_filter.mpr ⟨List.mem_of_getElem? (i := 1145) (by decide +kernel), rfl⟩
theorem wd_1146 : Cond.instanceMethod ⟨"DuelSamplesModel", "told", "(I)I"⟩ ∈ TG := List.mem_filter.mpr ⟨List.mem_of_getElem? (i := 1146) (by decide +kernel), rfl⟩
theorem wd_1147 : Cond.selects "DuelSamplesModel" ⟨"DuelSamplesModel", "told", "(I)I"⟩ ⟨"DuelSamplesModel", "told", "(I)I"⟩ ∈ TG := List.mem_filter.mpr ⟨List.mem_of_getElem? (i := 1147) (by decide +kernel), rfl⟩
theorem wd_1148 : Cond.code ⟨"DuelSamplesModel", "told", "(I)I"⟩ prog_8_method_78_code 2 (Option.some Jvm.ClassFile.FieldType.int) ∈ TG := List.mem_filter.mpr ⟨List.mem_of_getElem? (i := 1148) (by decide +kernel), rfl⟩
theorem wd_1149 : Cond.constantLong "DuelSamplesModel" 298 (6) ∈ TG := List.mem_filter.mpr ⟨List.mem_of_getElem? (i := 1149) (by decide +kernel), rfl⟩
theorem wd_1150 : Cond.methodLink "DuelSamplesModel" 300 ⟨"DuelSamplesModel", "toldOf", "(I)I"⟩ ∈ TG := List.mem_filter.mpr ⟨List.mem_of_getElem? (i := 1150) (by decide +kernel), rfl⟩
theorem wd_1152 : Cond.instanceMethod ⟨"DuelSamplesModel", "toldOf", "(I)I"⟩ ∈ TG := List.mem_filter.mpr ⟨List.mem_of_getElem? (i := 1152) (by decide +kernel), rfl⟩
theorem wd_1153 : Cond.code ⟨"DuelSamplesModel", "toldOf", "(I)I"⟩ prog_8_method_77_code 2 (Option.some Jvm.ClassFile.FieldType.int) ∈ TG := List.mem_filter.mpr ⟨List.mem_of_getElem? (i := 1153) (by decide +kernel), rfl⟩
theorem wd_1154 : Cond.methodLink "DuelSamplesLaw" 125 ⟨"DuelSamplesModel", "digest", "()J"⟩ ∈ TG := List.mem_filter.mpr ⟨List.mem_of_getElem? (i := 1154) (by decide +kernel), rfl⟩
theorem wd_1155 : Cond.instanceMethod ⟨"DuelSamplesModel", "digest", "()J"⟩ ∈ TG := List.mem_filter.mpr ⟨List.mem_of_getElem? (i := 1155) (by decide +kernel), rfl⟩
theorem wd_1156 : Cond.selects "DuelSamplesModel" ⟨"DuelSamplesModel", "digest", "()J"⟩ ⟨"DuelSamplesModel", "digest", "()J"⟩ ∈ TG := List.mem_filter.mpr ⟨List.mem_of_getElem? (i := 1156) (by decide +kernel), rfl⟩
theorem wd_1157 : Cond.code ⟨"DuelSamplesModel", "digest", "()J"⟩ prog_8_method_79_code 5 (Option.some Jvm.ClassFile.FieldType.long) ∈ TG := List.mem_filter.mpr ⟨List.mem_of_getElem? (i := 1157) (by decide +kernel), rfl⟩
theorem wd_1158 : Cond.constantLong "DuelSamplesModel" 303 (2029) ∈ TG := List.mem_filter.mpr ⟨List.mem_of_getElem? (i := 1158) (by decide +kernel), rfl⟩
theorem wd_1159 : Cond.constantLong "DuelSamplesModel" 305 (31) ∈ TG := List.mem_filter.mpr ⟨List.mem_of_getElem? (i := 1159) (by decide +kernel), rfl⟩
theorem wd_1160 : Cond.fieldLink "java/lang/String" 9 "java/lang/String" "value" "[B" ∈ TG := List.mem_filter.mpr ⟨List.mem_of_getElem? (i := 1160) (by decide +kernel), rfl⟩
theorem wd_1161 : Cond.fieldLink "java/lang/String" 15 "java/lang/String" "coder" "B" ∈ TG := List.mem_filter.mpr ⟨List.mem_of_getElem? (i := 1161) (by decide +kernel), rfl⟩
theorem in_X0 : ∀ w ∈ u_ws RX0 TX0 10, w ∈ TG := by
  have h : (u_ws RX0 TX0 10).all (fun w => goodWord w && lw_tbl.contains w) = true := by decide +kernel
  intro w hw
  have h1 := List.all_eq_true.mp h w hw
  rw [Bool.and_eq_true] at h1
  exact List.mem_filter.mpr ⟨by simpa using h1.2, h1.1⟩
theorem in_X1 : ∀ w ∈ u_ws RX1 TX1 3, w ∈ TG := by
  have h : (u_ws RX1 TX1 3).all (fun w => goodWord w && lw_tbl.contains w) = true := by decide +kernel
  intro w hw
  have h1 := List.all_eq_true.mp h w hw
  rw [Bool.and_eq_true] at h1
  exact List.mem_filter.mpr ⟨by simpa using h1.2, h1.1⟩
theorem in_X2 : ∀ w ∈ u_ws RX2 TX2 2, w ∈ TG := by
  have h : (u_ws RX2 TX2 2).all (fun w => goodWord w && lw_tbl.contains w) = true := by decide +kernel
  intro w hw
  have h1 := List.all_eq_true.mp h w hw
  rw [Bool.and_eq_true] at h1
  exact List.mem_filter.mpr ⟨by simpa using h1.2, h1.1⟩
theorem in_X3 : ∀ w ∈ u_ws RX3 TX3 3, w ∈ TG := by
  have h : (u_ws RX3 TX3 3).all (fun w => goodWord w && lw_tbl.contains w) = true := by decide +kernel
  intro w hw
  have h1 := List.all_eq_true.mp h w hw
  rw [Bool.and_eq_true] at h1
  exact List.mem_filter.mpr ⟨by simpa using h1.2, h1.1⟩
theorem in_X4 : ∀ w ∈ u_ws RX4 TX4 7, w ∈ TG := by
  have h : (u_ws RX4 TX4 7).all (fun w => goodWord w && lw_tbl.contains w) = true := by decide +kernel
  intro w hw
  have h1 := List.all_eq_true.mp h w hw
  rw [Bool.and_eq_true] at h1
  exact List.mem_filter.mpr ⟨by simpa using h1.2, h1.1⟩
theorem in_X5 : ∀ w ∈ u_ws RX5 TX5 9, w ∈ TG := by
  have h : (u_ws RX5 TX5 9).all (fun w => goodWord w && lw_tbl.contains w) = true := by decide +kernel
  intro w hw
  have h1 := List.all_eq_true.mp h w hw
  rw [Bool.and_eq_true] at h1
  exact List.mem_filter.mpr ⟨by simpa using h1.2, h1.1⟩
theorem in_X6 : ∀ w ∈ u_ws RX6 TX6 23, w ∈ TG := by
  have h : (u_ws RX6 TX6 23).all (fun w => goodWord w && lw_tbl.contains w) = true := by decide +kernel
  intro w hw
  have h1 := List.all_eq_true.mp h w hw
  rw [Bool.and_eq_true] at h1
  exact List.mem_filter.mpr ⟨by simpa using h1.2, h1.1⟩
