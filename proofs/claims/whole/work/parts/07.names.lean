abbrev cX0_hasPage : ByteArray := prog_2_method_3_code
def yX0_hasPage : MethodName := ⟨RX0, "hasPage", "(I)Z"⟩
abbrev cX0_hasChapter : ByteArray := prog_2_method_4_code
def yX0_hasChapter : MethodName := ⟨RX0, "hasChapter", "(I)Z"⟩
abbrev cX0_takesWeight : ByteArray := prog_2_method_5_code
def yX0_takesWeight : MethodName := ⟨RX0, "takesWeight", "(I)Z"⟩
abbrev cX0_takesCount : ByteArray := prog_2_method_6_code
def yX0_takesCount : MethodName := ⟨RX0, "takesCount", "(I)Z"⟩
abbrev cX0_hasSeat : ByteArray := prog_2_method_7_code
def yX0_hasSeat : MethodName := ⟨RX0, "hasSeat", "(I)Z"⟩
abbrev cX0_slotWithId : ByteArray := prog_2_method_8_code
def yX0_slotWithId : MethodName := ⟨RX0, "slotWithId", "(I)I"⟩
abbrev cX0_slotOnPage : ByteArray := prog_2_method_9_code
def yX0_slotOnPage : MethodName := ⟨RX0, "slotOnPage", "(I)I"⟩
abbrev cX0_slotInSeat : ByteArray := prog_2_method_10_code
def yX0_slotInSeat : MethodName := ⟨RX0, "slotInSeat", "(I)I"⟩
abbrev cX0_slotFrom : ByteArray := prog_2_method_11_code
def yX0_slotFrom : MethodName := ⟨RX0, "slotFrom", "(I)I"⟩
abbrev cX0_slotUpTo : ByteArray := prog_2_method_12_code
def yX0_slotUpTo : MethodName := ⟨RX0, "slotUpTo", "(I)I"⟩
abbrev cX0_slotNearest : ByteArray := prog_2_method_13_code
def yX0_slotNearest : MethodName := ⟨RX0, "slotNearest", "(I)I"⟩
abbrev cX0_isAhead : ByteArray := prog_2_method_16_code
def yX0_isAhead : MethodName := ⟨RX0, "isAhead", "(II)Z"⟩
abbrev cX0_rankOf : ByteArray := prog_2_method_15_code
def yX0_rankOf : MethodName := ⟨RX0, "rankOf", "(I)I"⟩
abbrev cX0_slotOfRank : ByteArray := prog_2_method_14_code
def yX0_slotOfRank : MethodName := ⟨RX0, "slotOfRank", "(I)I"⟩
abbrev cX0_freeSeat : ByteArray := prog_2_method_17_code
def yX0_freeSeat : MethodName := ⟨RX0, "freeSeat", "()I"⟩
abbrev cX0_chapterWith : ByteArray := prog_2_method_18_code
def yX0_chapterWith : MethodName := ⟨RX0, "chapterWith", "(I)I"⟩
abbrev cX0_endOf : ByteArray := prog_2_method_19_code
def yX0_endOf : MethodName := ⟨RX0, "endOf", "(I)I"⟩
abbrev cX0_isIn : ByteArray := prog_2_method_20_code
def yX0_isIn : MethodName := ⟨RX0, "isIn", "(II)Z"⟩
abbrev cX0_heldPageByPage : ByteArray := prog_2_method_21_code
def yX0_heldPageByPage : MethodName := ⟨RX0, "heldPageByPage", "(I)I"⟩
abbrev cX0_heldMarkByMark : ByteArray := prog_2_method_22_code
def yX0_heldMarkByMark : MethodName := ⟨RX0, "heldMarkByMark", "(I)I"⟩
abbrev cX0_weightIn : ByteArray := prog_2_method_23_code
def yX0_weightIn : MethodName := ⟨RX0, "weightIn", "(I)I"⟩
abbrev cX0_favour : ByteArray := prog_2_method_24_code
def yX0_favour : MethodName := ⟨RX0, "favour", "(I)I"⟩
abbrev cX0_against : ByteArray := prog_2_method_25_code
def yX0_against : MethodName := ⟨RX0, "against", "(I)I"⟩
abbrev cX0_weightOfAll : ByteArray := prog_2_method_29_code
def yX0_weightOfAll : MethodName := ⟨RX0, "weightOfAll", "()I"⟩
abbrev cX0_againstByTotal : ByteArray := prog_2_method_26_code
def yX0_againstByTotal : MethodName := ⟨RX0, "againstByTotal", "(I)I"⟩
abbrev cX0_wouldCarry : ByteArray := prog_2_method_27_code
def yX0_wouldCarry : MethodName := ⟨RX0, "wouldCarry", "(I)Z"⟩
abbrev cX0_heaviest : ByteArray := prog_2_method_28_code
def yX0_heaviest : MethodName := ⟨RX0, "heaviest", "()I"⟩
abbrev cX0_weightOfKind : ByteArray := prog_2_method_30_code
def yX0_weightOfKind : MethodName := ⟨RX0, "weightOfKind", "(Z)I"⟩
abbrev cX0_ribbons : ByteArray := prog_2_method_31_code
def yX0_ribbons : MethodName := ⟨RX0, "ribbons", "()I"⟩
abbrev cX0_spanStepByStep : ByteArray := prog_2_method_32_code
def yX0_spanStepByStep : MethodName := ⟨RX0, "spanStepByStep", "()I"⟩
abbrev cX0_spanEndToEnd : ByteArray := prog_2_method_33_code
def yX0_spanEndToEnd : MethodName := ⟨RX0, "spanEndToEnd", "()I"⟩
abbrev cX0_chapterWaysAgree : ByteArray := prog_2_method_34_code
def yX0_chapterWaysAgree : MethodName := ⟨RX0, "chapterWaysAgree", "()Z"⟩
abbrev cX0_pagesDiffer : ByteArray := prog_2_method_35_code
def yX0_pagesDiffer : MethodName := ⟨RX0, "pagesDiffer", "()Z"⟩
abbrev cX0_seatsDiffer : ByteArray := prog_2_method_36_code
def yX0_seatsDiffer : MethodName := ⟨RX0, "seatsDiffer", "()Z"⟩
abbrev cX0_accepts : ByteArray := prog_2_method_37_code
def yX0_accepts : MethodName := ⟨RX0, "accepts", "(CII)Z"⟩
abbrev cX0_reasonAgainstRibbon : ByteArray := prog_2_method_39_code
def yX0_reasonAgainstRibbon : MethodName := ⟨RX0, "reasonAgainstRibbon", "(I)I"⟩
abbrev cX0_reasonAgainstEar : ByteArray := prog_2_method_40_code
def yX0_reasonAgainstEar : MethodName := ⟨RX0, "reasonAgainstEar", "(I)I"⟩
abbrev cX0_isRibbonId : ByteArray := prog_2_method_44_code
def yX0_isRibbonId : MethodName := ⟨RX0, "isRibbonId", "(I)Z"⟩
abbrev cX0_reasonAgainstMove : ByteArray := prog_2_method_41_code
def yX0_reasonAgainstMove : MethodName := ⟨RX0, "reasonAgainstMove", "(II)I"⟩
abbrev cX0_reasonAgainstSwap : ByteArray := prog_2_method_42_code
def yX0_reasonAgainstSwap : MethodName := ⟨RX0, "reasonAgainstSwap", "(II)I"⟩
abbrev cX0_reasonAgainstStart : ByteArray := prog_2_method_43_code
def yX0_reasonAgainstStart : MethodName := ⟨RX0, "reasonAgainstStart", "(I)I"⟩
abbrev cX0_reasonAgainst : ByteArray := prog_2_method_38_code
def yX0_reasonAgainst : MethodName := ⟨RX0, "reasonAgainst", "(CII)I"⟩
abbrev cX0_idOnPage : ByteArray := prog_2_method_46_code
def yX0_idOnPage : MethodName := ⟨RX0, "idOnPage", "(I)I"⟩
abbrev cX0_detailOf : ByteArray := prog_2_method_45_code
def yX0_detailOf : MethodName := ⟨RX0, "detailOf", "(ICII)I"⟩
abbrev cX0_copySlot : ByteArray := prog_2_method_54_code
def yX0_copySlot : MethodName := ⟨RX0, "copySlot", "(II)V"⟩
abbrev cX0_insert : ByteArray := prog_2_method_52_code
def yX0_insert : MethodName := ⟨RX0, "insert", "(IIIII)V"⟩
abbrev cX0_add : ByteArray := prog_2_method_48_code
def yX0_add : MethodName := ⟨RX0, "add", "(III)I"⟩
abbrev cX0_takeOut : ByteArray := prog_2_method_53_code
def yX0_takeOut : MethodName := ⟨RX0, "takeOut", "(I)V"⟩
abbrev cX0_remove : ByteArray := prog_2_method_49_code
def yX0_remove : MethodName := ⟨RX0, "remove", "(I)I"⟩
abbrev cX0_move : ByteArray := prog_2_method_50_code
def yX0_move : MethodName := ⟨RX0, "move", "(II)I"⟩
abbrev cX0_swap : ByteArray := prog_2_method_51_code
def yX0_swap : MethodName := ⟨RX0, "swap", "(II)I"⟩
abbrev cX0_start : ByteArray := prog_2_method_55_code
def yX0_start : MethodName := ⟨RX0, "start", "(I)I"⟩
abbrev cX0_removeEarsIn : ByteArray := prog_2_method_57_code
def yX0_removeEarsIn : MethodName := ⟨RX0, "removeEarsIn", "(I)V"⟩
abbrev cX0_dropStart : ByteArray := prog_2_method_58_code
def yX0_dropStart : MethodName := ⟨RX0, "dropStart", "(I)V"⟩
abbrev cX0_vote : ByteArray := prog_2_method_56_code
def yX0_vote : MethodName := ⟨RX0, "vote", "(I)Z"⟩
abbrev cX0_isEarOnTheWay : ByteArray := prog_2_method_61_code
def yX0_isEarOnTheWay : MethodName := ⟨RX0, "isEarOnTheWay", "(IIZ)Z"⟩
abbrev cX0_turn : ByteArray := prog_2_method_59_code
def yX0_turn : MethodName := ⟨RX0, "turn", "(IZ)I"⟩
abbrev cX0_carryOut : ByteArray := prog_2_method_47_code
def yX0_carryOut : MethodName := ⟨RX0, "carryOut", "(CII)I"⟩
abbrev cX0_earsAboutToFall : ByteArray := prog_2_method_60_code
def yX0_earsAboutToFall : MethodName := ⟨RX0, "earsAboutToFall", "(IZ)I"⟩
abbrev cX0_copyFrom : ByteArray := prog_2_method_2_code
def yX0_copyFrom : MethodName := ⟨RX0, "copyFrom", "(LBookmarkManager$Book;)V"⟩
abbrev cX2_append : ByteArray := prog_4_method_2_code
def yX2_append : MethodName := ⟨RX2, "append", "(C)I"⟩
abbrev cX2_takesDigitLast : ByteArray := prog_4_method_8_code
def yX2_takesDigitLast : MethodName := ⟨RX2, "takesDigitLast", "(C)Z"⟩
abbrev cX2_hasSecond : ByteArray := prog_4_method_7_code
def yX2_hasSecond : MethodName := ⟨RX2, "hasSecond", "(C)Z"⟩
abbrev cX2_isKind : ByteArray := prog_4_method_6_code
def yX2_isKind : MethodName := ⟨RX2, "isKind", "(C)Z"⟩
abbrev cX2_readDigit : ByteArray := prog_4_method_10_code
def yX2_readDigit : MethodName := ⟨RX2, "readDigit", "()I"⟩
abbrev cX2_readNumber : ByteArray := prog_4_method_11_code
def yX2_readNumber : MethodName := ⟨RX2, "readNumber", "()I"⟩
abbrev cX2_skip : ByteArray := prog_4_method_9_code
def yX2_skip : MethodName := ⟨RX2, "skip", "(C)Z"⟩
abbrev cX2_readCommand : ByteArray := prog_4_method_5_code
def yX2_readCommand : MethodName := ⟨RX2, "readCommand", "(I)Z"⟩
abbrev cX2_readCommands : ByteArray := prog_4_method_4_code
def yX2_readCommands : MethodName := ⟨RX2, "readCommands", "()I"⟩
abbrev cX2_takeCommands : ByteArray := prog_4_method_3_code
def yX2_takeCommands : MethodName := ⟨RX2, "takeCommands", "()I"⟩
abbrev cX4_thrown : ByteArray := prog_6_method_2_code
def yX4_thrown : MethodName := ⟨RX4, "thrown", "()I"⟩
abbrev cX4_in : ByteArray := prog_6_method_3_code
def yX4_in : MethodName := ⟨RX4, "in", "(III)Z"⟩
abbrev cX4_copies : ByteArray := prog_6_method_4_code
def yX4_copies : MethodName := ⟨RX4, "copies", "(II)V"⟩
abbrev cX4_begins : ByteArray := prog_6_method_5_code
def yX4_begins : MethodName := ⟨RX4, "begins", "()V"⟩
abbrev cX4_ends : ByteArray := prog_6_method_6_code
def yX4_ends : MethodName := ⟨RX4, "ends", "(IIII)I"⟩
abbrev cX4_isFine : ByteArray := prog_6_method_7_code
def yX4_isFine : MethodName := ⟨RX4, "isFine", "(Z)Z"⟩
abbrev cX4_rejects : ByteArray := prog_6_method_8_code
def yX4_rejects : MethodName := ⟨RX4, "rejects", "(ZII)Z"⟩
abbrev cX4_rejectionReason : ByteArray := prog_6_method_9_code
def yX4_rejectionReason : MethodName := ⟨RX4, "rejectionReason", "()I"⟩
abbrev cX4_rejectionDetail : ByteArray := prog_6_method_10_code
def yX4_rejectionDetail : MethodName := ⟨RX4, "rejectionDetail", "()I"⟩
abbrev cX4_causeReason : ByteArray := prog_6_method_11_code
def yX4_causeReason : MethodName := ⟨RX4, "causeReason", "()I"⟩
abbrev cX4_m : ByteArray := prog_6_method_12_code
def yX4_m : MethodName := ⟨RX4, "m", "(II)I"⟩
abbrev cX4_set : ByteArray := prog_6_method_13_code
def yX4_set : MethodName := ⟨RX4, "set", "(III)V"⟩
abbrev cX4_find : ByteArray := prog_6_method_14_code
def yX4_find : MethodName := ⟨RX4, "find", "(I)I"⟩
abbrev cX4_onPage : ByteArray := prog_6_method_15_code
def yX4_onPage : MethodName := ⟨RX4, "onPage", "(I)I"⟩
abbrev cX4_inSeat : ByteArray := prog_6_method_16_code
def yX4_inSeat : MethodName := ⟨RX4, "inSeat", "(I)I"⟩
abbrev cX4_idAt : ByteArray := prog_6_method_17_code
def yX4_idAt : MethodName := ⟨RX4, "idAt", "(I)I"⟩
abbrev cX4_isPage : ByteArray := prog_6_method_18_code
def yX4_isPage : MethodName := ⟨RX4, "isPage", "(I)Z"⟩
abbrev cX4_isChapter : ByteArray := prog_6_method_19_code
def yX4_isChapter : MethodName := ⟨RX4, "isChapter", "(I)Z"⟩
abbrev cX4_first : ByteArray := prog_6_method_20_code
def yX4_first : MethodName := ⟨RX4, "first", "(I)I"⟩
abbrev cX4_last : ByteArray := prog_6_method_21_code
def yX4_last : MethodName := ⟨RX4, "last", "(I)I"⟩
abbrev cX4_chapterAt : ByteArray := prog_6_method_22_code
def yX4_chapterAt : MethodName := ⟨RX4, "chapterAt", "(I)I"⟩
abbrev cX4_ofChapter : ByteArray := prog_6_method_23_code
def yX4_ofChapter : MethodName := ⟨RX4, "ofChapter", "(II)I"⟩
abbrev cX4_weightOfAll : ByteArray := prog_6_method_24_code
def yX4_weightOfAll : MethodName := ⟨RX4, "weightOfAll", "(I)I"⟩
abbrev cX4_favour : ByteArray := prog_6_method_25_code
def yX4_favour : MethodName := ⟨RX4, "favour", "(I)I"⟩
abbrev cX4_isCarried : ByteArray := prog_6_method_26_code
def yX4_isCarried : MethodName := ⟨RX4, "isCarried", "(I)Z"⟩
abbrev cX4_freeSeat : ByteArray := prog_6_method_27_code
def yX4_freeSeat : MethodName := ⟨RX4, "freeSeat", "()I"⟩
abbrev cX4_adds : ByteArray := prog_6_method_28_code
def yX4_adds : MethodName := ⟨RX4, "adds", "(IIZ)I"⟩
abbrev cX4_addRibbon : ByteArray := prog_6_method_29_code
def yX4_addRibbon : MethodName := ⟨RX4, "addRibbon", "(II)I"⟩
abbrev cX4_addDogEar : ByteArray := prog_6_method_30_code
def yX4_addDogEar : MethodName := ⟨RX4, "addDogEar", "(II)I"⟩
abbrev cX4_goes : ByteArray := prog_6_method_31_code
def yX4_goes : MethodName := ⟨RX4, "goes", "(I)V"⟩
abbrev cX4_removes : ByteArray := prog_6_method_32_code
def yX4_removes : MethodName := ⟨RX4, "removes", "(I)I"⟩
abbrev cX4_removeMark : ByteArray := prog_6_method_33_code
def yX4_removeMark : MethodName := ⟨RX4, "removeMark", "(I)I"⟩
abbrev cX4_moves : ByteArray := prog_6_method_34_code
def yX4_moves : MethodName := ⟨RX4, "moves", "(II)I"⟩
abbrev cX4_moveRibbon : ByteArray := prog_6_method_35_code
def yX4_moveRibbon : MethodName := ⟨RX4, "moveRibbon", "(II)I"⟩
abbrev cX4_swaps : ByteArray := prog_6_method_36_code
def yX4_swaps : MethodName := ⟨RX4, "swaps", "(II)I"⟩
abbrev cX4_swapSeats : ByteArray := prog_6_method_37_code
def yX4_swapSeats : MethodName := ⟨RX4, "swapSeats", "(II)I"⟩
abbrev cX4_starts : ByteArray := prog_6_method_38_code
def yX4_starts : MethodName := ⟨RX4, "starts", "(I)I"⟩
abbrev cX4_startChapter : ByteArray := prog_6_method_39_code
def yX4_startChapter : MethodName := ⟨RX4, "startChapter", "(I)I"⟩
abbrev cX4_votes : ByteArray := prog_6_method_40_code
def yX4_votes : MethodName := ⟨RX4, "votes", "(I)I"⟩
abbrev cX4_voteToDissolve : ByteArray := prog_6_method_41_code
def yX4_voteToDissolve : MethodName := ⟨RX4, "voteToDissolve", "(I)Z"⟩
abbrev cX4_isPassed : ByteArray := prog_6_method_42_code
def yX4_isPassed : MethodName := ⟨RX4, "isPassed", "(IIZ)Z"⟩
abbrev cX4_turns : ByteArray := prog_6_method_43_code
def yX4_turns : MethodName := ⟨RX4, "turns", "(IZ)I"⟩
abbrev cX4_turnPages : ByteArray := prog_6_method_44_code
def yX4_turnPages : MethodName := ⟨RX4, "turnPages", "(IZ)I"⟩
abbrev cX4_ofMark : ByteArray := prog_6_method_45_code
def yX4_ofMark : MethodName := ⟨RX4, "ofMark", "(II)I"⟩
abbrev cX4_isRibbon : ByteArray := prog_6_method_46_code
def yX4_isRibbon : MethodName := ⟨RX4, "isRibbon", "(I)Z"⟩
abbrev cX4_pageOf : ByteArray := prog_6_method_47_code
def yX4_pageOf : MethodName := ⟨RX4, "pageOf", "(I)I"⟩
abbrev cX4_weightOf : ByteArray := prog_6_method_48_code
def yX4_weightOf : MethodName := ⟨RX4, "weightOf", "(I)I"⟩
abbrev cX4_wearOf : ByteArray := prog_6_method_49_code
def yX4_wearOf : MethodName := ⟨RX4, "wearOf", "(I)I"⟩
abbrev cX4_seatOf : ByteArray := prog_6_method_50_code
def yX4_seatOf : MethodName := ⟨RX4, "seatOf", "(I)I"⟩
abbrev cX4_idOr : ByteArray := prog_6_method_51_code
def yX4_idOr : MethodName := ⟨RX4, "idOr", "(ZI)I"⟩
abbrev cX4_ribbonIn : ByteArray := prog_6_method_52_code
def yX4_ribbonIn : MethodName := ⟨RX4, "ribbonIn", "(I)I"⟩
abbrev cX4_isHeld : ByteArray := prog_6_method_53_code
def yX4_isHeld : MethodName := ⟨RX4, "isHeld", "(I)Z"⟩
abbrev cX4_markOn : ByteArray := prog_6_method_54_code
def yX4_markOn : MethodName := ⟨RX4, "markOn", "(I)I"⟩
abbrev cX4_nearest : ByteArray := prog_6_method_55_code
def yX4_nearest : MethodName := ⟨RX4, "nearest", "(II)I"⟩
abbrev cX4_nextMark : ByteArray := prog_6_method_56_code
def yX4_nextMark : MethodName := ⟨RX4, "nextMark", "(I)I"⟩
abbrev cX4_previousMark : ByteArray := prog_6_method_57_code
def yX4_previousMark : MethodName := ⟨RX4, "previousMark", "(I)I"⟩
abbrev cX4_nearestMark : ByteArray := prog_6_method_58_code
def yX4_nearestMark : MethodName := ⟨RX4, "nearestMark", "(I)I"⟩
abbrev cX4_chapterOf : ByteArray := prog_6_method_59_code
def yX4_chapterOf : MethodName := ⟨RX4, "chapterOf", "(I)I"⟩
abbrev cX4_firstPage : ByteArray := prog_6_method_60_code
def yX4_firstPage : MethodName := ⟨RX4, "firstPage", "(I)I"⟩
abbrev cX4_lastPage : ByteArray := prog_6_method_61_code
def yX4_lastPage : MethodName := ⟨RX4, "lastPage", "(I)I"⟩
abbrev cX4_heldPages : ByteArray := prog_6_method_62_code
def yX4_heldPages : MethodName := ⟨RX4, "heldPages", "(I)I"⟩
abbrev cX4_heldPagesByMarks : ByteArray := prog_6_method_63_code
def yX4_heldPagesByMarks : MethodName := ⟨RX4, "heldPagesByMarks", "(I)I"⟩
abbrev cX4_chapterWeight : ByteArray := prog_6_method_64_code
def yX4_chapterWeight : MethodName := ⟨RX4, "chapterWeight", "(I)I"⟩
abbrev cX4_weightInFavour : ByteArray := prog_6_method_65_code
def yX4_weightInFavour : MethodName := ⟨RX4, "weightInFavour", "(I)I"⟩
abbrev cX4_weightAgainst : ByteArray := prog_6_method_66_code
def yX4_weightAgainst : MethodName := ⟨RX4, "weightAgainst", "(I)I"⟩
abbrev cX4_weightAgainstByTotal : ByteArray := prog_6_method_67_code
def yX4_weightAgainstByTotal : MethodName := ⟨RX4, "weightAgainstByTotal", "(I)I"⟩
abbrev cX4_wouldDissolve : ByteArray := prog_6_method_68_code
def yX4_wouldDissolve : MethodName := ⟨RX4, "wouldDissolve", "(I)Z"⟩
abbrev cX4_heaviestChapter : ByteArray := prog_6_method_69_code
def yX4_heaviestChapter : MethodName := ⟨RX4, "heaviestChapter", "()I"⟩
abbrev cX4_currentPage : ByteArray := prog_6_method_70_code
def yX4_currentPage : MethodName := ⟨RX4, "currentPage", "()I"⟩
abbrev cX4_pagesToNextMark : ByteArray := prog_6_method_71_code
def yX4_pagesToNextMark : MethodName := ⟨RX4, "pagesToNextMark", "()I"⟩
abbrev cX4_earsAtRisk : ByteArray := prog_6_method_72_code
def yX4_earsAtRisk : MethodName := ⟨RX4, "earsAtRisk", "(IZ)I"⟩
abbrev cX4_pageRank : ByteArray := prog_6_method_73_code
def yX4_pageRank : MethodName := ⟨RX4, "pageRank", "(I)I"⟩
abbrev cX4_weightRank : ByteArray := prog_6_method_74_code
def yX4_weightRank : MethodName := ⟨RX4, "weightRank", "(I)I"⟩
abbrev cX4_markByPage : ByteArray := prog_6_method_75_code
def yX4_markByPage : MethodName := ⟨RX4, "markByPage", "(I)I"⟩
abbrev cX4_markByWeight : ByteArray := prog_6_method_76_code
def yX4_markByWeight : MethodName := ⟨RX4, "markByWeight", "(I)I"⟩
abbrev cX4_span : ByteArray := prog_6_method_77_code
def yX4_span : MethodName := ⟨RX4, "span", "()I"⟩
abbrev cX4_spanByEnds : ByteArray := prog_6_method_78_code
def yX4_spanByEnds : MethodName := ⟨RX4, "spanByEnds", "()I"⟩
abbrev cX4_ribbonWeight : ByteArray := prog_6_method_79_code
def yX4_ribbonWeight : MethodName := ⟨RX4, "ribbonWeight", "()I"⟩
abbrev cX4_dogEarWeight : ByteArray := prog_6_method_80_code
def yX4_dogEarWeight : MethodName := ⟨RX4, "dogEarWeight", "()I"⟩
abbrev cX4_markCount : ByteArray := prog_6_method_81_code
def yX4_markCount : MethodName := ⟨RX4, "markCount", "()I"⟩
abbrev cX4_ribbonCount : ByteArray := prog_6_method_82_code
def yX4_ribbonCount : MethodName := ⟨RX4, "ribbonCount", "()I"⟩
abbrev cX4_chapterCount : ByteArray := prog_6_method_83_code
def yX4_chapterCount : MethodName := ⟨RX4, "chapterCount", "()I"⟩
abbrev cX4_votesHeld : ByteArray := prog_6_method_84_code
def yX4_votesHeld : MethodName := ⟨RX4, "votesHeld", "()I"⟩
abbrev cX4_motionsCarried : ByteArray := prog_6_method_85_code
def yX4_motionsCarried : MethodName := ⟨RX4, "motionsCarried", "()I"⟩
abbrev cX4_fallenEars : ByteArray := prog_6_method_86_code
def yX4_fallenEars : MethodName := ⟨RX4, "fallenEars", "()I"⟩
abbrev cX4_isConsistent : ByteArray := prog_6_method_89_code
def yX4_isConsistent : MethodName := ⟨RX4, "isConsistent", "()Z"⟩
abbrev cX4_writes : ByteArray := prog_6_method_90_code
def yX4_writes : MethodName := ⟨RX4, "writes", "(I)V"⟩
abbrev cX4_writesNumber : ByteArray := prog_6_method_91_code
def yX4_writesNumber : MethodName := ⟨RX4, "writesNumber", "(I)V"⟩
abbrev cX4_writeChapter : ByteArray := prog_6_method_92_code
def yX4_writeChapter : MethodName := ⟨RX4, "writeChapter", "(I)I"⟩
abbrev cX4_writeSeats : ByteArray := prog_6_method_93_code
def yX4_writeSeats : MethodName := ⟨RX4, "writeSeats", "()I"⟩
abbrev cX4_outputAt : ByteArray := prog_6_method_94_code
def yX4_outputAt : MethodName := ⟨RX4, "outputAt", "(I)C"⟩
abbrev cX4_appendInput : ByteArray := prog_6_method_95_code
def yX4_appendInput : MethodName := ⟨RX4, "appendInput", "(C)I"⟩
abbrev cX4_sign : ByteArray := prog_6_method_96_code
def yX4_sign : MethodName := ⟨RX4, "sign", "()I"⟩
abbrev cX4_needs : ByteArray := prog_6_method_97_code
def yX4_needs : MethodName := ⟨RX4, "needs", "(I)V"⟩
abbrev cX4_number : ByteArray := prog_6_method_98_code
def yX4_number : MethodName := ⟨RX4, "number", "(I)I"⟩
abbrev cX4_behind : ByteArray := prog_6_method_99_code
def yX4_behind : MethodName := ⟨RX4, "behind", "(II)I"⟩
abbrev cX4_isLetter : ByteArray := prog_6_method_100_code
def yX4_isLetter : MethodName := ⟨RX4, "isLetter", "(I)Z"⟩
abbrev cX4_command : ByteArray := prog_6_method_101_code
def yX4_command : MethodName := ⟨RX4, "command", "()V"⟩
abbrev cX4_parse : ByteArray := prog_6_method_102_code
def yX4_parse : MethodName := ⟨RX4, "parse", "()V"⟩
abbrev cX4_does : ByteArray := prog_6_method_103_code
def yX4_does : MethodName := ⟨RX4, "does", "(I)I"⟩
abbrev cX4_execute : ByteArray := prog_6_method_104_code
def yX4_execute : MethodName := ⟨RX4, "execute", "()I"⟩
abbrev cX4_syntaxErrorOffset : ByteArray := prog_6_method_105_code
def yX4_syntaxErrorOffset : MethodName := ⟨RX4, "syntaxErrorOffset", "()I"⟩
abbrev cX4_undo : ByteArray := prog_6_method_106_code
def yX4_undo : MethodName := ⟨RX4, "undo", "()I"⟩
abbrev cX4_undoCount : ByteArray := prog_6_method_107_code
def yX4_undoCount : MethodName := ⟨RX4, "undoCount", "()I"⟩
abbrev cX4_saveSnapshot : ByteArray := prog_6_method_108_code
def yX4_saveSnapshot : MethodName := ⟨RX4, "saveSnapshot", "()I"⟩
abbrev cX4_restoreSnapshot : ByteArray := prog_6_method_109_code
def yX4_restoreSnapshot : MethodName := ⟨RX4, "restoreSnapshot", "()I"⟩
abbrev cX1_remember : ByteArray := prog_3_method_2_code
def yX1_remember : MethodName := ⟨RX1, "remember", "(LBookmarkManager$Book;)V"⟩
abbrev cX1_bringBackTo : ByteArray := prog_3_method_3_code
def yX1_bringBackTo : MethodName := ⟨RX1, "bringBackTo", "(LBookmarkManager$Book;)V"⟩
abbrev cX1_forget : ByteArray := prog_3_method_4_code
def yX1_forget : MethodName := ⟨RX1, "forget", "()V"⟩
abbrev cX3_requirePage : ByteArray := prog_1_method_63_code
def yX3_requirePage : MethodName := ⟨RX3, "requirePage", "(I)V"⟩
abbrev cX3_requireWeight : ByteArray := prog_1_method_64_code
def yX3_requireWeight : MethodName := ⟨RX3, "requireWeight", "(I)V"⟩
abbrev cX3_noteRejection : ByteArray := prog_1_method_71_code
def yX3_noteRejection : MethodName := ⟨RX3, "noteRejection", "(III)V"⟩
abbrev cX3_changeUnlessRejected : ByteArray := prog_1_method_70_code
def yX3_changeUnlessRejected : MethodName := ⟨RX3, "changeUnlessRejected", "(CII)I"⟩
abbrev cX3_addRibbon : ByteArray := prog_1_method_2_code
def yX3_addRibbon : MethodName := ⟨RX3, "addRibbon", "(II)I"⟩
abbrev cX3_addDogEar : ByteArray := prog_1_method_3_code
def yX3_addDogEar : MethodName := ⟨RX3, "addDogEar", "(II)I"⟩
abbrev cX3_requireMark : ByteArray := prog_1_method_67_code
def yX3_requireMark : MethodName := ⟨RX3, "requireMark", "(I)I"⟩
abbrev cX3_removeMark : ByteArray := prog_1_method_4_code
def yX3_removeMark : MethodName := ⟨RX3, "removeMark", "(I)I"⟩
abbrev cX3_moveRibbon : ByteArray := prog_1_method_5_code
def yX3_moveRibbon : MethodName := ⟨RX3, "moveRibbon", "(II)I"⟩
abbrev cX3_swapSeats : ByteArray := prog_1_method_6_code
def yX3_swapSeats : MethodName := ⟨RX3, "swapSeats", "(II)I"⟩
abbrev cX3_isRibbon : ByteArray := prog_1_method_7_code
def yX3_isRibbon : MethodName := ⟨RX3, "isRibbon", "(I)Z"⟩
abbrev cX3_pageOf : ByteArray := prog_1_method_8_code
def yX3_pageOf : MethodName := ⟨RX3, "pageOf", "(I)I"⟩
abbrev cX3_weightOf : ByteArray := prog_1_method_9_code
def yX3_weightOf : MethodName := ⟨RX3, "weightOf", "(I)I"⟩
abbrev cX3_wearOf : ByteArray := prog_1_method_10_code
def yX3_wearOf : MethodName := ⟨RX3, "wearOf", "(I)I"⟩
abbrev cX3_seatOf : ByteArray := prog_1_method_11_code
def yX3_seatOf : MethodName := ⟨RX3, "seatOf", "(I)I"⟩
abbrev cX3_idOfFound : ByteArray := prog_1_method_69_code
def yX3_idOfFound : MethodName := ⟨RX3, "idOfFound", "(I)I"⟩
abbrev cX3_ribbonIn : ByteArray := prog_1_method_12_code
def yX3_ribbonIn : MethodName := ⟨RX3, "ribbonIn", "(I)I"⟩
abbrev cX3_isHeld : ByteArray := prog_1_method_13_code
def yX3_isHeld : MethodName := ⟨RX3, "isHeld", "(I)Z"⟩
abbrev cX3_markOn : ByteArray := prog_1_method_14_code
def yX3_markOn : MethodName := ⟨RX3, "markOn", "(I)I"⟩
abbrev cX3_nextMark : ByteArray := prog_1_method_15_code
def yX3_nextMark : MethodName := ⟨RX3, "nextMark", "(I)I"⟩
abbrev cX3_previousMark : ByteArray := prog_1_method_16_code
def yX3_previousMark : MethodName := ⟨RX3, "previousMark", "(I)I"⟩
abbrev cX3_nearestMark : ByteArray := prog_1_method_17_code
def yX3_nearestMark : MethodName := ⟨RX3, "nearestMark", "(I)I"⟩
abbrev cX3_chapterOf : ByteArray := prog_1_method_18_code
def yX3_chapterOf : MethodName := ⟨RX3, "chapterOf", "(I)I"⟩
abbrev cX3_startChapter : ByteArray := prog_1_method_19_code
def yX3_startChapter : MethodName := ⟨RX3, "startChapter", "(I)I"⟩
abbrev cX3_requireChapter : ByteArray := prog_1_method_66_code
def yX3_requireChapter : MethodName := ⟨RX3, "requireChapter", "(I)V"⟩
abbrev cX3_voteToDissolve : ByteArray := prog_1_method_20_code
def yX3_voteToDissolve : MethodName := ⟨RX3, "voteToDissolve", "(I)Z"⟩
abbrev cX3_firstPage : ByteArray := prog_1_method_21_code
def yX3_firstPage : MethodName := ⟨RX3, "firstPage", "(I)I"⟩
abbrev cX3_lastPage : ByteArray := prog_1_method_22_code
def yX3_lastPage : MethodName := ⟨RX3, "lastPage", "(I)I"⟩
abbrev cX3_heldPages : ByteArray := prog_1_method_23_code
def yX3_heldPages : MethodName := ⟨RX3, "heldPages", "(I)I"⟩
abbrev cX3_heldPagesByMarks : ByteArray := prog_1_method_24_code
def yX3_heldPagesByMarks : MethodName := ⟨RX3, "heldPagesByMarks", "(I)I"⟩
abbrev cX3_chapterWeight : ByteArray := prog_1_method_25_code
def yX3_chapterWeight : MethodName := ⟨RX3, "chapterWeight", "(I)I"⟩
abbrev cX3_weightInFavour : ByteArray := prog_1_method_26_code
def yX3_weightInFavour : MethodName := ⟨RX3, "weightInFavour", "(I)I"⟩
abbrev cX3_weightAgainst : ByteArray := prog_1_method_27_code
def yX3_weightAgainst : MethodName := ⟨RX3, "weightAgainst", "(I)I"⟩
abbrev cX3_weightAgainstByTotal : ByteArray := prog_1_method_28_code
def yX3_weightAgainstByTotal : MethodName := ⟨RX3, "weightAgainstByTotal", "(I)I"⟩
abbrev cX3_wouldDissolve : ByteArray := prog_1_method_29_code
def yX3_wouldDissolve : MethodName := ⟨RX3, "wouldDissolve", "(I)Z"⟩
abbrev cX3_heaviestChapter : ByteArray := prog_1_method_30_code
def yX3_heaviestChapter : MethodName := ⟨RX3, "heaviestChapter", "()I"⟩
abbrev cX3_requireCount : ByteArray := prog_1_method_65_code
def yX3_requireCount : MethodName := ⟨RX3, "requireCount", "(I)V"⟩
abbrev cX3_turnPages : ByteArray := prog_1_method_31_code
def yX3_turnPages : MethodName := ⟨RX3, "turnPages", "(IZ)I"⟩
abbrev cX3_currentPage : ByteArray := prog_1_method_32_code
def yX3_currentPage : MethodName := ⟨RX3, "currentPage", "()I"⟩
abbrev cX3_pagesToNextMark : ByteArray := prog_1_method_33_code
def yX3_pagesToNextMark : MethodName := ⟨RX3, "pagesToNextMark", "()I"⟩
abbrev cX3_earsAtRisk : ByteArray := prog_1_method_34_code
def yX3_earsAtRisk : MethodName := ⟨RX3, "earsAtRisk", "(IZ)I"⟩
abbrev cX3_markByPage : ByteArray := prog_1_method_35_code
def yX3_markByPage : MethodName := ⟨RX3, "markByPage", "(I)I"⟩
abbrev cX3_markByWeight : ByteArray := prog_1_method_36_code
def yX3_markByWeight : MethodName := ⟨RX3, "markByWeight", "(I)I"⟩
abbrev cX3_span : ByteArray := prog_1_method_37_code
def yX3_span : MethodName := ⟨RX3, "span", "()I"⟩
abbrev cX3_spanByEnds : ByteArray := prog_1_method_38_code
def yX3_spanByEnds : MethodName := ⟨RX3, "spanByEnds", "()I"⟩
abbrev cX3_ribbonWeight : ByteArray := prog_1_method_39_code
def yX3_ribbonWeight : MethodName := ⟨RX3, "ribbonWeight", "()I"⟩
abbrev cX3_dogEarWeight : ByteArray := prog_1_method_40_code
def yX3_dogEarWeight : MethodName := ⟨RX3, "dogEarWeight", "()I"⟩
abbrev cX3_markCount : ByteArray := prog_1_method_41_code
def yX3_markCount : MethodName := ⟨RX3, "markCount", "()I"⟩
abbrev cX3_ribbonCount : ByteArray := prog_1_method_42_code
def yX3_ribbonCount : MethodName := ⟨RX3, "ribbonCount", "()I"⟩
abbrev cX3_chapterCount : ByteArray := prog_1_method_43_code
def yX3_chapterCount : MethodName := ⟨RX3, "chapterCount", "()I"⟩
abbrev cX3_votesHeld : ByteArray := prog_1_method_44_code
def yX3_votesHeld : MethodName := ⟨RX3, "votesHeld", "()I"⟩
abbrev cX3_motionsCarried : ByteArray := prog_1_method_45_code
def yX3_motionsCarried : MethodName := ⟨RX3, "motionsCarried", "()I"⟩
abbrev cX3_fallenEars : ByteArray := prog_1_method_46_code
def yX3_fallenEars : MethodName := ⟨RX3, "fallenEars", "()I"⟩
abbrev cX3_isConsistent : ByteArray := prog_1_method_49_code
def yX3_isConsistent : MethodName := ⟨RX3, "isConsistent", "()Z"⟩
abbrev cX3_appendInput : ByteArray := prog_1_method_53_code
def yX3_appendInput : MethodName := ⟨RX3, "appendInput", "(C)I"⟩
abbrev cX3_execute : ByteArray := prog_1_method_54_code
def yX3_execute : MethodName := ⟨RX3, "execute", "()I"⟩
abbrev cX3_syntaxErrorOffset : ByteArray := prog_1_method_55_code
def yX3_syntaxErrorOffset : MethodName := ⟨RX3, "syntaxErrorOffset", "()I"⟩
abbrev cX3_requireRejection : ByteArray := prog_1_method_68_code
def yX3_requireRejection : MethodName := ⟨RX3, "requireRejection", "()V"⟩
abbrev cX3_rejectionReason : ByteArray := prog_1_method_56_code
def yX3_rejectionReason : MethodName := ⟨RX3, "rejectionReason", "()I"⟩
abbrev cX3_rejectionDetail : ByteArray := prog_1_method_57_code
def yX3_rejectionDetail : MethodName := ⟨RX3, "rejectionDetail", "()I"⟩
abbrev cX3_causeReason : ByteArray := prog_1_method_58_code
def yX3_causeReason : MethodName := ⟨RX3, "causeReason", "()I"⟩
abbrev cX3_undo : ByteArray := prog_1_method_59_code
def yX3_undo : MethodName := ⟨RX3, "undo", "()I"⟩
abbrev cX3_undoCount : ByteArray := prog_1_method_60_code
def yX3_undoCount : MethodName := ⟨RX3, "undoCount", "()I"⟩
abbrev cX3_saveSnapshot : ByteArray := prog_1_method_61_code
def yX3_saveSnapshot : MethodName := ⟨RX3, "saveSnapshot", "()I"⟩
abbrev cX3_restoreSnapshot : ByteArray := prog_1_method_62_code
def yX3_restoreSnapshot : MethodName := ⟨RX3, "restoreSnapshot", "()I"⟩
theorem dX0_hasPage_0 : decode cX0_hasPage 0 = .ok (.iload_n 1, 1) := by decide +kernel
theorem dX0_hasPage_1 : decode cX0_hasPage 1 = .ok (.ifCond .lt 13, 3) := by decide +kernel
theorem dX0_hasPage_4 : decode cX0_hasPage 4 = .ok (.iload_n 1, 1) := by decide +kernel
theorem dX0_hasPage_5 : decode cX0_hasPage 5 = .ok (.bipush 60, 2) := by decide +kernel
theorem dX0_hasPage_7 : decode cX0_hasPage 7 = .ok (.if_icmp .ge 7, 3) := by decide +kernel
theorem dX0_hasPage_10 : decode cX0_hasPage 10 = .ok (.iconst 1, 1) := by decide +kernel
theorem dX0_hasPage_11 : decode cX0_hasPage 11 = .ok (.goto 4, 3) := by decide +kernel
theorem dX0_hasPage_14 : decode cX0_hasPage 14 = .ok (.iconst 0, 1) := by decide +kernel
theorem dX0_hasPage_15 : decode cX0_hasPage 15 = .ok (.ireturn, 1) := by decide +kernel
theorem dX0_hasChapter_0 : decode cX0_hasChapter 0 = .ok (.iload_n 1, 1) := by decide +kernel
theorem dX0_hasChapter_1 : decode cX0_hasChapter 1 = .ok (.ifCond .lt 15, 3) := by decide +kernel
theorem dX0_hasChapter_4 : decode cX0_hasChapter 4 = .ok (.iload_n 1, 1) := by decide +kernel
theorem dX0_hasChapter_5 : decode cX0_hasChapter 5 = .ok (.aload_n 0, 1) := by decide +kernel
theorem dX0_hasChapter_6 : decode cX0_hasChapter 6 = .ok (.getfield 34, 3) := by decide +kernel
theorem dX0_hasChapter_9 : decode cX0_hasChapter 9 = .ok (.if_icmp .ge 7, 3) := by decide +kernel
theorem dX0_hasChapter_12 : decode cX0_hasChapter 12 = .ok (.iconst 1, 1) := by decide +kernel
theorem dX0_hasChapter_13 : decode cX0_hasChapter 13 = .ok (.goto 4, 3) := by decide +kernel
theorem dX0_hasChapter_16 : decode cX0_hasChapter 16 = .ok (.iconst 0, 1) := by decide +kernel
theorem dX0_hasChapter_17 : decode cX0_hasChapter 17 = .ok (.ireturn, 1) := by decide +kernel
theorem dX0_takesWeight_0 : decode cX0_takesWeight 0 = .ok (.iload_n 1, 1) := by decide +kernel
theorem dX0_takesWeight_1 : decode cX0_takesWeight 1 = .ok (.iconst 1, 1) := by decide +kernel
theorem dX0_takesWeight_2 : decode cX0_takesWeight 2 = .ok (.if_icmp .lt 13, 3) := by decide +kernel
theorem dX0_takesWeight_5 : decode cX0_takesWeight 5 = .ok (.iload_n 1, 1) := by decide +kernel
theorem dX0_takesWeight_6 : decode cX0_takesWeight 6 = .ok (.bipush 9, 2) := by decide +kernel
theorem dX0_takesWeight_8 : decode cX0_takesWeight 8 = .ok (.if_icmp .gt 7, 3) := by decide +kernel
theorem dX0_takesWeight_11 : decode cX0_takesWeight 11 = .ok (.iconst 1, 1) := by decide +kernel
theorem dX0_takesWeight_12 : decode cX0_takesWeight 12 = .ok (.goto 4, 3) := by decide +kernel
theorem dX0_takesWeight_15 : decode cX0_takesWeight 15 = .ok (.iconst 0, 1) := by decide +kernel
theorem dX0_takesWeight_16 : decode cX0_takesWeight 16 = .ok (.ireturn, 1) := by decide +kernel
theorem dX0_takesCount_0 : decode cX0_takesCount 0 = .ok (.iload_n 1, 1) := by decide +kernel
theorem dX0_takesCount_1 : decode cX0_takesCount 1 = .ok (.iconst 1, 1) := by decide +kernel
theorem dX0_takesCount_2 : decode cX0_takesCount 2 = .ok (.if_icmp .lt 13, 3) := by decide +kernel
theorem dX0_takesCount_5 : decode cX0_takesCount 5 = .ok (.iload_n 1, 1) := by decide +kernel
theorem dX0_takesCount_6 : decode cX0_takesCount 6 = .ok (.bipush 20, 2) := by decide +kernel
theorem dX0_takesCount_8 : decode cX0_takesCount 8 = .ok (.if_icmp .gt 7, 3) := by decide +kernel
theorem dX0_takesCount_11 : decode cX0_takesCount 11 = .ok (.iconst 1, 1) := by decide +kernel
theorem dX0_takesCount_12 : decode cX0_takesCount 12 = .ok (.goto 4, 3) := by decide +kernel
theorem dX0_takesCount_15 : decode cX0_takesCount 15 = .ok (.iconst 0, 1) := by decide +kernel
theorem dX0_takesCount_16 : decode cX0_takesCount 16 = .ok (.ireturn, 1) := by decide +kernel
theorem dX0_hasSeat_0 : decode cX0_hasSeat 0 = .ok (.aload_n 0, 1) := by decide +kernel
theorem dX0_hasSeat_1 : decode cX0_hasSeat 1 = .ok (.getfield 24, 3) := by decide +kernel
theorem dX0_hasSeat_4 : decode cX0_hasSeat 4 = .ok (.iload_n 1, 1) := by decide +kernel
theorem dX0_hasSeat_5 : decode cX0_hasSeat 5 = .ok (.iaload, 1) := by decide +kernel
theorem dX0_hasSeat_6 : decode cX0_hasSeat 6 = .ok (.iconst (-1), 1) := by decide +kernel
theorem dX0_hasSeat_7 : decode cX0_hasSeat 7 = .ok (.if_icmp .eq 7, 3) := by decide +kernel
theorem dX0_hasSeat_10 : decode cX0_hasSeat 10 = .ok (.iconst 1, 1) := by decide +kernel
theorem dX0_hasSeat_11 : decode cX0_hasSeat 11 = .ok (.goto 4, 3) := by decide +kernel
theorem dX0_hasSeat_14 : decode cX0_hasSeat 14 = .ok (.iconst 0, 1) := by decide +kernel
theorem dX0_hasSeat_15 : decode cX0_hasSeat 15 = .ok (.ireturn, 1) := by decide +kernel
theorem dX0_slotWithId_0 : decode cX0_slotWithId 0 = .ok (.iconst 0, 1) := by decide +kernel
theorem dX0_slotWithId_1 : decode cX0_slotWithId 1 = .ok (.istore_n 2, 1) := by decide +kernel
theorem dX0_slotWithId_2 : decode cX0_slotWithId 2 = .ok (.iload_n 2, 1) := by decide +kernel
theorem dX0_slotWithId_3 : decode cX0_slotWithId 3 = .ok (.aload_n 0, 1) := by decide +kernel
theorem dX0_slotWithId_4 : decode cX0_slotWithId 4 = .ok (.getfield 30, 3) := by decide +kernel
theorem dX0_slotWithId_7 : decode cX0_slotWithId 7 = .ok (.if_icmp .ge 21, 3) := by decide +kernel
theorem dX0_slotWithId_10 : decode cX0_slotWithId 10 = .ok (.aload_n 0, 1) := by decide +kernel
theorem dX0_slotWithId_11 : decode cX0_slotWithId 11 = .ok (.getfield 9, 3) := by decide +kernel
theorem dX0_slotWithId_14 : decode cX0_slotWithId 14 = .ok (.iload_n 2, 1) := by decide +kernel
theorem dX0_slotWithId_15 : decode cX0_slotWithId 15 = .ok (.iaload, 1) := by decide +kernel
theorem dX0_slotWithId_16 : decode cX0_slotWithId 16 = .ok (.iload_n 1, 1) := by decide +kernel
theorem dX0_slotWithId_17 : decode cX0_slotWithId 17 = .ok (.if_icmp .ne 5, 3) := by decide +kernel
theorem dX0_slotWithId_20 : decode cX0_slotWithId 20 = .ok (.iload_n 2, 1) := by decide +kernel
theorem dX0_slotWithId_21 : decode cX0_slotWithId 21 = .ok (.ireturn, 1) := by decide +kernel
theorem dX0_slotWithId_22 : decode cX0_slotWithId 22 = .ok (.iinc 2 1, 3) := by decide +kernel
theorem dX0_slotWithId_25 : decode cX0_slotWithId 25 = .ok (.goto (-23), 3) := by decide +kernel
theorem dX0_slotWithId_28 : decode cX0_slotWithId 28 = .ok (.iconst (-1), 1) := by decide +kernel
theorem dX0_slotWithId_29 : decode cX0_slotWithId 29 = .ok (.ireturn, 1) := by decide +kernel
theorem dX0_slotOnPage_0 : decode cX0_slotOnPage 0 = .ok (.iconst 0, 1) := by decide +kernel
theorem dX0_slotOnPage_1 : decode cX0_slotOnPage 1 = .ok (.istore_n 2, 1) := by decide +kernel
theorem dX0_slotOnPage_2 : decode cX0_slotOnPage 2 = .ok (.iload_n 2, 1) := by decide +kernel
theorem dX0_slotOnPage_3 : decode cX0_slotOnPage 3 = .ok (.aload_n 0, 1) := by decide +kernel
theorem dX0_slotOnPage_4 : decode cX0_slotOnPage 4 = .ok (.getfield 30, 3) := by decide +kernel
theorem dX0_slotOnPage_7 : decode cX0_slotOnPage 7 = .ok (.if_icmp .ge 21, 3) := by decide +kernel
theorem dX0_slotOnPage_10 : decode cX0_slotOnPage 10 = .ok (.aload_n 0, 1) := by decide +kernel
theorem dX0_slotOnPage_11 : decode cX0_slotOnPage 11 = .ok (.getfield 15, 3) := by decide +kernel
theorem dX0_slotOnPage_14 : decode cX0_slotOnPage 14 = .ok (.iload_n 2, 1) := by decide +kernel
theorem dX0_slotOnPage_15 : decode cX0_slotOnPage 15 = .ok (.iaload, 1) := by decide +kernel
theorem dX0_slotOnPage_16 : decode cX0_slotOnPage 16 = .ok (.iload_n 1, 1) := by decide +kernel
theorem dX0_slotOnPage_17 : decode cX0_slotOnPage 17 = .ok (.if_icmp .ne 5, 3) := by decide +kernel
theorem dX0_slotOnPage_20 : decode cX0_slotOnPage 20 = .ok (.iload_n 2, 1) := by decide +kernel
theorem dX0_slotOnPage_21 : decode cX0_slotOnPage 21 = .ok (.ireturn, 1) := by decide +kernel
theorem dX0_slotOnPage_22 : decode cX0_slotOnPage 22 = .ok (.iinc 2 1, 3) := by decide +kernel
theorem dX0_slotOnPage_25 : decode cX0_slotOnPage 25 = .ok (.goto (-23), 3) := by decide +kernel
theorem dX0_slotOnPage_28 : decode cX0_slotOnPage 28 = .ok (.iconst (-1), 1) := by decide +kernel
theorem dX0_slotOnPage_29 : decode cX0_slotOnPage 29 = .ok (.ireturn, 1) := by decide +kernel
theorem dX0_slotInSeat_0 : decode cX0_slotInSeat 0 = .ok (.iconst 0, 1) := by decide +kernel
theorem dX0_slotInSeat_1 : decode cX0_slotInSeat 1 = .ok (.istore_n 2, 1) := by decide +kernel
theorem dX0_slotInSeat_2 : decode cX0_slotInSeat 2 = .ok (.iload_n 2, 1) := by decide +kernel
theorem dX0_slotInSeat_3 : decode cX0_slotInSeat 3 = .ok (.aload_n 0, 1) := by decide +kernel
theorem dX0_slotInSeat_4 : decode cX0_slotInSeat 4 = .ok (.getfield 30, 3) := by decide +kernel
theorem dX0_slotInSeat_7 : decode cX0_slotInSeat 7 = .ok (.if_icmp .ge 21, 3) := by decide +kernel
theorem dX0_slotInSeat_10 : decode cX0_slotInSeat 10 = .ok (.aload_n 0, 1) := by decide +kernel
theorem dX0_slotInSeat_11 : decode cX0_slotInSeat 11 = .ok (.getfield 24, 3) := by decide +kernel
theorem dX0_slotInSeat_14 : decode cX0_slotInSeat 14 = .ok (.iload_n 2, 1) := by decide +kernel
theorem dX0_slotInSeat_15 : decode cX0_slotInSeat 15 = .ok (.iaload, 1) := by decide +kernel
theorem dX0_slotInSeat_16 : decode cX0_slotInSeat 16 = .ok (.iload_n 1, 1) := by decide +kernel
theorem dX0_slotInSeat_17 : decode cX0_slotInSeat 17 = .ok (.if_icmp .ne 5, 3) := by decide +kernel
theorem dX0_slotInSeat_20 : decode cX0_slotInSeat 20 = .ok (.iload_n 2, 1) := by decide +kernel
theorem dX0_slotInSeat_21 : decode cX0_slotInSeat 21 = .ok (.ireturn, 1) := by decide +kernel
theorem dX0_slotInSeat_22 : decode cX0_slotInSeat 22 = .ok (.iinc 2 1, 3) := by decide +kernel
theorem dX0_slotInSeat_25 : decode cX0_slotInSeat 25 = .ok (.goto (-23), 3) := by decide +kernel
theorem dX0_slotInSeat_28 : decode cX0_slotInSeat 28 = .ok (.iconst (-1), 1) := by decide +kernel
theorem dX0_slotInSeat_29 : decode cX0_slotInSeat 29 = .ok (.ireturn, 1) := by decide +kernel
theorem dX0_slotFrom_0 : decode cX0_slotFrom 0 = .ok (.iconst 0, 1) := by decide +kernel
theorem dX0_slotFrom_1 : decode cX0_slotFrom 1 = .ok (.istore_n 2, 1) := by decide +kernel
theorem dX0_slotFrom_2 : decode cX0_slotFrom 2 = .ok (.iload_n 2, 1) := by decide +kernel
theorem dX0_slotFrom_3 : decode cX0_slotFrom 3 = .ok (.aload_n 0, 1) := by decide +kernel
theorem dX0_slotFrom_4 : decode cX0_slotFrom 4 = .ok (.getfield 30, 3) := by decide +kernel
theorem dX0_slotFrom_7 : decode cX0_slotFrom 7 = .ok (.if_icmp .ge 21, 3) := by decide +kernel
theorem dX0_slotFrom_10 : decode cX0_slotFrom 10 = .ok (.aload_n 0, 1) := by decide +kernel
theorem dX0_slotFrom_11 : decode cX0_slotFrom 11 = .ok (.getfield 15, 3) := by decide +kernel
theorem dX0_slotFrom_14 : decode cX0_slotFrom 14 = .ok (.iload_n 2, 1) := by decide +kernel
theorem dX0_slotFrom_15 : decode cX0_slotFrom 15 = .ok (.iaload, 1) := by decide +kernel
theorem dX0_slotFrom_16 : decode cX0_slotFrom 16 = .ok (.iload_n 1, 1) := by decide +kernel
theorem dX0_slotFrom_17 : decode cX0_slotFrom 17 = .ok (.if_icmp .lt 5, 3) := by decide +kernel
theorem dX0_slotFrom_20 : decode cX0_slotFrom 20 = .ok (.iload_n 2, 1) := by decide +kernel
theorem dX0_slotFrom_21 : decode cX0_slotFrom 21 = .ok (.ireturn, 1) := by decide +kernel
theorem dX0_slotFrom_22 : decode cX0_slotFrom 22 = .ok (.iinc 2 1, 3) := by decide +kernel
theorem dX0_slotFrom_25 : decode cX0_slotFrom 25 = .ok (.goto (-23), 3) := by decide +kernel
theorem dX0_slotFrom_28 : decode cX0_slotFrom 28 = .ok (.iconst (-1), 1) := by decide +kernel
theorem dX0_slotFrom_29 : decode cX0_slotFrom 29 = .ok (.ireturn, 1) := by decide +kernel
theorem dX0_slotUpTo_0 : decode cX0_slotUpTo 0 = .ok (.aload_n 0, 1) := by decide +kernel
theorem dX0_slotUpTo_1 : decode cX0_slotUpTo 1 = .ok (.getfield 30, 3) := by decide +kernel
theorem dX0_slotUpTo_4 : decode cX0_slotUpTo 4 = .ok (.iconst 1, 1) := by decide +kernel
theorem dX0_slotUpTo_5 : decode cX0_slotUpTo 5 = .ok (.isub, 1) := by decide +kernel
theorem dX0_slotUpTo_6 : decode cX0_slotUpTo 6 = .ok (.istore_n 2, 1) := by decide +kernel
theorem dX0_slotUpTo_7 : decode cX0_slotUpTo 7 = .ok (.iload_n 2, 1) := by decide +kernel
theorem dX0_slotUpTo_8 : decode cX0_slotUpTo 8 = .ok (.ifCond .lt 21, 3) := by decide +kernel
theorem dX0_slotUpTo_11 : decode cX0_slotUpTo 11 = .ok (.aload_n 0, 1) := by decide +kernel
theorem dX0_slotUpTo_12 : decode cX0_slotUpTo 12 = .ok (.getfield 15, 3) := by decide +kernel
theorem dX0_slotUpTo_15 : decode cX0_slotUpTo 15 = .ok (.iload_n 2, 1) := by decide +kernel
theorem dX0_slotUpTo_16 : decode cX0_slotUpTo 16 = .ok (.iaload, 1) := by decide +kernel
theorem dX0_slotUpTo_17 : decode cX0_slotUpTo 17 = .ok (.iload_n 1, 1) := by decide +kernel
theorem dX0_slotUpTo_18 : decode cX0_slotUpTo 18 = .ok (.if_icmp .gt 5, 3) := by decide +kernel
theorem dX0_slotUpTo_21 : decode cX0_slotUpTo 21 = .ok (.iload_n 2, 1) := by decide +kernel
theorem dX0_slotUpTo_22 : decode cX0_slotUpTo 22 = .ok (.ireturn, 1) := by decide +kernel
theorem dX0_slotUpTo_23 : decode cX0_slotUpTo 23 = .ok (.iinc 2 (-1), 3) := by decide +kernel
theorem dX0_slotUpTo_26 : decode cX0_slotUpTo 26 = .ok (.goto (-19), 3) := by decide +kernel
theorem dX0_slotUpTo_29 : decode cX0_slotUpTo 29 = .ok (.iconst (-1), 1) := by decide +kernel
theorem dX0_slotUpTo_30 : decode cX0_slotUpTo 30 = .ok (.ireturn, 1) := by decide +kernel
theorem dX0_slotNearest_0 : decode cX0_slotNearest 0 = .ok (.aload_n 0, 1) := by decide +kernel
theorem dX0_slotNearest_1 : decode cX0_slotNearest 1 = .ok (.iload_n 1, 1) := by decide +kernel
theorem dX0_slotNearest_2 : decode cX0_slotNearest 2 = .ok (.invokevirtual 58, 3) := by decide +kernel
theorem dX0_slotNearest_5 : decode cX0_slotNearest 5 = .ok (.istore_n 2, 1) := by decide +kernel
theorem dX0_slotNearest_6 : decode cX0_slotNearest 6 = .ok (.aload_n 0, 1) := by decide +kernel
theorem dX0_slotNearest_7 : decode cX0_slotNearest 7 = .ok (.iload_n 1, 1) := by decide +kernel
theorem dX0_slotNearest_8 : decode cX0_slotNearest 8 = .ok (.invokevirtual 62, 3) := by decide +kernel
theorem dX0_slotNearest_11 : decode cX0_slotNearest 11 = .ok (.istore_n 3, 1) := by decide +kernel
theorem dX0_slotNearest_12 : decode cX0_slotNearest 12 = .ok (.iload_n 2, 1) := by decide +kernel
theorem dX0_slotNearest_13 : decode cX0_slotNearest 13 = .ok (.iconst (-1), 1) := by decide +kernel
theorem dX0_slotNearest_14 : decode cX0_slotNearest 14 = .ok (.if_icmp .ne 5, 3) := by decide +kernel
theorem dX0_slotNearest_17 : decode cX0_slotNearest 17 = .ok (.iload_n 3, 1) := by decide +kernel
theorem dX0_slotNearest_18 : decode cX0_slotNearest 18 = .ok (.ireturn, 1) := by decide +kernel
theorem dX0_slotNearest_19 : decode cX0_slotNearest 19 = .ok (.iload_n 3, 1) := by decide +kernel
theorem dX0_slotNearest_20 : decode cX0_slotNearest 20 = .ok (.iconst (-1), 1) := by decide +kernel
theorem dX0_slotNearest_21 : decode cX0_slotNearest 21 = .ok (.if_icmp .ne 5, 3) := by decide +kernel
theorem dX0_slotNearest_24 : decode cX0_slotNearest 24 = .ok (.iload_n 2, 1) := by decide +kernel
theorem dX0_slotNearest_25 : decode cX0_slotNearest 25 = .ok (.ireturn, 1) := by decide +kernel
theorem dX0_slotNearest_26 : decode cX0_slotNearest 26 = .ok (.iload_n 1, 1) := by decide +kernel
theorem dX0_slotNearest_27 : decode cX0_slotNearest 27 = .ok (.aload_n 0, 1) := by decide +kernel
theorem dX0_slotNearest_28 : decode cX0_slotNearest 28 = .ok (.getfield 15, 3) := by decide +kernel
theorem dX0_slotNearest_31 : decode cX0_slotNearest 31 = .ok (.iload_n 2, 1) := by decide +kernel
theorem dX0_slotNearest_32 : decode cX0_slotNearest 32 = .ok (.iaload, 1) := by decide +kernel
theorem dX0_slotNearest_33 : decode cX0_slotNearest 33 = .ok (.isub, 1) := by decide +kernel
theorem dX0_slotNearest_34 : decode cX0_slotNearest 34 = .ok (.aload_n 0, 1) := by decide +kernel
theorem dX0_slotNearest_35 : decode cX0_slotNearest 35 = .ok (.getfield 15, 3) := by decide +kernel
theorem dX0_slotNearest_38 : decode cX0_slotNearest 38 = .ok (.iload_n 3, 1) := by decide +kernel
theorem dX0_slotNearest_39 : decode cX0_slotNearest 39 = .ok (.iaload, 1) := by decide +kernel
theorem dX0_slotNearest_40 : decode cX0_slotNearest 40 = .ok (.iload_n 1, 1) := by decide +kernel
theorem dX0_slotNearest_41 : decode cX0_slotNearest 41 = .ok (.isub, 1) := by decide +kernel
theorem dX0_slotNearest_42 : decode cX0_slotNearest 42 = .ok (.if_icmp .gt 7, 3) := by decide +kernel
theorem dX0_slotNearest_45 : decode cX0_slotNearest 45 = .ok (.iload_n 2, 1) := by decide +kernel
theorem dX0_slotNearest_46 : decode cX0_slotNearest 46 = .ok (.goto 4, 3) := by decide +kernel
theorem dX0_slotNearest_49 : decode cX0_slotNearest 49 = .ok (.iload_n 3, 1) := by decide +kernel
theorem dX0_slotNearest_50 : decode cX0_slotNearest 50 = .ok (.ireturn, 1) := by decide +kernel
theorem dX0_isAhead_0 : decode cX0_isAhead 0 = .ok (.aload_n 0, 1) := by decide +kernel
theorem dX0_isAhead_1 : decode cX0_isAhead 1 = .ok (.getfield 18, 3) := by decide +kernel
theorem dX0_isAhead_4 : decode cX0_isAhead 4 = .ok (.iload_n 1, 1) := by decide +kernel
theorem dX0_isAhead_5 : decode cX0_isAhead 5 = .ok (.iaload, 1) := by decide +kernel
theorem dX0_isAhead_6 : decode cX0_isAhead 6 = .ok (.aload_n 0, 1) := by decide +kernel
theorem dX0_isAhead_7 : decode cX0_isAhead 7 = .ok (.getfield 18, 3) := by decide +kernel
theorem dX0_isAhead_10 : decode cX0_isAhead 10 = .ok (.iload_n 2, 1) := by decide +kernel
theorem dX0_isAhead_11 : decode cX0_isAhead 11 = .ok (.iaload, 1) := by decide +kernel
theorem dX0_isAhead_12 : decode cX0_isAhead 12 = .ok (.if_icmp .eq 24, 3) := by decide +kernel
theorem dX0_isAhead_15 : decode cX0_isAhead 15 = .ok (.aload_n 0, 1) := by decide +kernel
theorem dX0_isAhead_16 : decode cX0_isAhead 16 = .ok (.getfield 18, 3) := by decide +kernel
theorem dX0_isAhead_19 : decode cX0_isAhead 19 = .ok (.iload_n 1, 1) := by decide +kernel
theorem dX0_isAhead_20 : decode cX0_isAhead 20 = .ok (.iaload, 1) := by decide +kernel
theorem dX0_isAhead_21 : decode cX0_isAhead 21 = .ok (.aload_n 0, 1) := by decide +kernel
theorem dX0_isAhead_22 : decode cX0_isAhead 22 = .ok (.getfield 18, 3) := by decide +kernel
theorem dX0_isAhead_25 : decode cX0_isAhead 25 = .ok (.iload_n 2, 1) := by decide +kernel
theorem dX0_isAhead_26 : decode cX0_isAhead 26 = .ok (.iaload, 1) := by decide +kernel
theorem dX0_isAhead_27 : decode cX0_isAhead 27 = .ok (.if_icmp .le 7, 3) := by decide +kernel
theorem dX0_isAhead_30 : decode cX0_isAhead 30 = .ok (.iconst 1, 1) := by decide +kernel
theorem dX0_isAhead_31 : decode cX0_isAhead 31 = .ok (.goto 4, 3) := by decide +kernel
theorem dX0_isAhead_34 : decode cX0_isAhead 34 = .ok (.iconst 0, 1) := by decide +kernel
theorem dX0_isAhead_35 : decode cX0_isAhead 35 = .ok (.ireturn, 1) := by decide +kernel
theorem dX0_isAhead_36 : decode cX0_isAhead 36 = .ok (.aload_n 0, 1) := by decide +kernel
theorem dX0_isAhead_37 : decode cX0_isAhead 37 = .ok (.iload_n 1, 1) := by decide +kernel
theorem dX0_isAhead_38 : decode cX0_isAhead 38 = .ok (.invokevirtual 72, 3) := by decide +kernel
theorem dX0_isAhead_41 : decode cX0_isAhead 41 = .ok (.aload_n 0, 1) := by decide +kernel
theorem dX0_isAhead_42 : decode cX0_isAhead 42 = .ok (.iload_n 2, 1) := by decide +kernel
theorem dX0_isAhead_43 : decode cX0_isAhead 43 = .ok (.invokevirtual 72, 3) := by decide +kernel
theorem dX0_isAhead_46 : decode cX0_isAhead 46 = .ok (.if_icmp .eq 9, 3) := by decide +kernel
theorem dX0_isAhead_49 : decode cX0_isAhead 49 = .ok (.aload_n 0, 1) := by decide +kernel
theorem dX0_isAhead_50 : decode cX0_isAhead 50 = .ok (.iload_n 1, 1) := by decide +kernel
theorem dX0_isAhead_51 : decode cX0_isAhead 51 = .ok (.invokevirtual 72, 3) := by decide +kernel
theorem dX0_isAhead_54 : decode cX0_isAhead 54 = .ok (.ireturn, 1) := by decide +kernel
theorem dX0_isAhead_55 : decode cX0_isAhead 55 = .ok (.aload_n 0, 1) := by decide +kernel
theorem dX0_isAhead_56 : decode cX0_isAhead 56 = .ok (.getfield 15, 3) := by decide +kernel
theorem dX0_isAhead_59 : decode cX0_isAhead 59 = .ok (.iload_n 1, 1) := by decide +kernel
theorem dX0_isAhead_60 : decode cX0_isAhead 60 = .ok (.iaload, 1) := by decide +kernel
theorem dX0_isAhead_61 : decode cX0_isAhead 61 = .ok (.aload_n 0, 1) := by decide +kernel
theorem dX0_isAhead_62 : decode cX0_isAhead 62 = .ok (.getfield 15, 3) := by decide +kernel
theorem dX0_isAhead_65 : decode cX0_isAhead 65 = .ok (.iload_n 2, 1) := by decide +kernel
theorem dX0_isAhead_66 : decode cX0_isAhead 66 = .ok (.iaload, 1) := by decide +kernel
theorem dX0_isAhead_67 : decode cX0_isAhead 67 = .ok (.if_icmp .ge 7, 3) := by decide +kernel
theorem dX0_isAhead_70 : decode cX0_isAhead 70 = .ok (.iconst 1, 1) := by decide +kernel
theorem dX0_isAhead_71 : decode cX0_isAhead 71 = .ok (.goto 4, 3) := by decide +kernel
theorem dX0_isAhead_74 : decode cX0_isAhead 74 = .ok (.iconst 0, 1) := by decide +kernel
theorem dX0_isAhead_75 : decode cX0_isAhead 75 = .ok (.ireturn, 1) := by decide +kernel
theorem dX0_rankOf_0 : decode cX0_rankOf 0 = .ok (.iconst 0, 1) := by decide +kernel
theorem dX0_rankOf_1 : decode cX0_rankOf 1 = .ok (.istore_n 2, 1) := by decide +kernel
theorem dX0_rankOf_2 : decode cX0_rankOf 2 = .ok (.iconst 0, 1) := by decide +kernel
theorem dX0_rankOf_3 : decode cX0_rankOf 3 = .ok (.istore_n 3, 1) := by decide +kernel
theorem dX0_rankOf_4 : decode cX0_rankOf 4 = .ok (.iload_n 3, 1) := by decide +kernel
theorem dX0_rankOf_5 : decode cX0_rankOf 5 = .ok (.aload_n 0, 1) := by decide +kernel
theorem dX0_rankOf_6 : decode cX0_rankOf 6 = .ok (.getfield 30, 3) := by decide +kernel
theorem dX0_rankOf_9 : decode cX0_rankOf 9 = .ok (.if_icmp .ge 21, 3) := by decide +kernel
theorem dX0_rankOf_12 : decode cX0_rankOf 12 = .ok (.aload_n 0, 1) := by decide +kernel
theorem dX0_rankOf_13 : decode cX0_rankOf 13 = .ok (.iload_n 3, 1) := by decide +kernel
theorem dX0_rankOf_14 : decode cX0_rankOf 14 = .ok (.iload_n 1, 1) := by decide +kernel
theorem dX0_rankOf_15 : decode cX0_rankOf 15 = .ok (.invokevirtual 68, 3) := by decide +kernel
theorem dX0_rankOf_18 : decode cX0_rankOf 18 = .ok (.ifCond .eq 6, 3) := by decide +kernel
theorem dX0_rankOf_21 : decode cX0_rankOf 21 = .ok (.iinc 2 1, 3) := by decide +kernel
theorem dX0_rankOf_24 : decode cX0_rankOf 24 = .ok (.iinc 3 1, 3) := by decide +kernel
theorem dX0_rankOf_27 : decode cX0_rankOf 27 = .ok (.goto (-23), 3) := by decide +kernel
theorem dX0_rankOf_30 : decode cX0_rankOf 30 = .ok (.iload_n 2, 1) := by decide +kernel
theorem dX0_rankOf_31 : decode cX0_rankOf 31 = .ok (.ireturn, 1) := by decide +kernel
theorem dX0_slotOfRank_0 : decode cX0_slotOfRank 0 = .ok (.iconst 0, 1) := by decide +kernel
theorem dX0_slotOfRank_1 : decode cX0_slotOfRank 1 = .ok (.istore_n 2, 1) := by decide +kernel
theorem dX0_slotOfRank_2 : decode cX0_slotOfRank 2 = .ok (.iload_n 2, 1) := by decide +kernel
theorem dX0_slotOfRank_3 : decode cX0_slotOfRank 3 = .ok (.aload_n 0, 1) := by decide +kernel
theorem dX0_slotOfRank_4 : decode cX0_slotOfRank 4 = .ok (.getfield 30, 3) := by decide +kernel
theorem dX0_slotOfRank_7 : decode cX0_slotOfRank 7 = .ok (.if_icmp .ge 20, 3) := by decide +kernel
theorem dX0_slotOfRank_10 : decode cX0_slotOfRank 10 = .ok (.aload_n 0, 1) := by decide +kernel
theorem dX0_slotOfRank_11 : decode cX0_slotOfRank 11 = .ok (.iload_n 2, 1) := by decide +kernel
theorem dX0_slotOfRank_12 : decode cX0_slotOfRank 12 = .ok (.invokevirtual 65, 3) := by decide +kernel
theorem dX0_slotOfRank_15 : decode cX0_slotOfRank 15 = .ok (.iload_n 1, 1) := by decide +kernel
theorem dX0_slotOfRank_16 : decode cX0_slotOfRank 16 = .ok (.if_icmp .ne 5, 3) := by decide +kernel
theorem dX0_slotOfRank_19 : decode cX0_slotOfRank 19 = .ok (.iload_n 2, 1) := by decide +kernel
theorem dX0_slotOfRank_20 : decode cX0_slotOfRank 20 = .ok (.ireturn, 1) := by decide +kernel
theorem dX0_slotOfRank_21 : decode cX0_slotOfRank 21 = .ok (.iinc 2 1, 3) := by decide +kernel
theorem dX0_slotOfRank_24 : decode cX0_slotOfRank 24 = .ok (.goto (-22), 3) := by decide +kernel
theorem dX0_slotOfRank_27 : decode cX0_slotOfRank 27 = .ok (.iconst (-1), 1) := by decide +kernel
theorem dX0_slotOfRank_28 : decode cX0_slotOfRank 28 = .ok (.ireturn, 1) := by decide +kernel
theorem dX0_freeSeat_0 : decode cX0_freeSeat 0 = .ok (.iconst 0, 1) := by decide +kernel
theorem dX0_freeSeat_1 : decode cX0_freeSeat 1 = .ok (.istore_n 1, 1) := by decide +kernel
theorem dX0_freeSeat_2 : decode cX0_freeSeat 2 = .ok (.iload_n 1, 1) := by decide +kernel
theorem dX0_freeSeat_3 : decode cX0_freeSeat 3 = .ok (.iconst 5, 1) := by decide +kernel
theorem dX0_freeSeat_4 : decode cX0_freeSeat 4 = .ok (.if_icmp .ge 20, 3) := by decide +kernel
theorem dX0_freeSeat_7 : decode cX0_freeSeat 7 = .ok (.aload_n 0, 1) := by decide +kernel
theorem dX0_freeSeat_8 : decode cX0_freeSeat 8 = .ok (.iload_n 1, 1) := by decide +kernel
theorem dX0_freeSeat_9 : decode cX0_freeSeat 9 = .ok (.invokevirtual 76, 3) := by decide +kernel
theorem dX0_freeSeat_12 : decode cX0_freeSeat 12 = .ok (.iconst (-1), 1) := by decide +kernel
theorem dX0_freeSeat_13 : decode cX0_freeSeat 13 = .ok (.if_icmp .ne 5, 3) := by decide +kernel
theorem dX0_freeSeat_16 : decode cX0_freeSeat 16 = .ok (.iload_n 1, 1) := by decide +kernel
theorem dX0_freeSeat_17 : decode cX0_freeSeat 17 = .ok (.ireturn, 1) := by decide +kernel
theorem dX0_freeSeat_18 : decode cX0_freeSeat 18 = .ok (.iinc 1 1, 3) := by decide +kernel
theorem dX0_freeSeat_21 : decode cX0_freeSeat 21 = .ok (.goto (-19), 3) := by decide +kernel
theorem dX0_freeSeat_24 : decode cX0_freeSeat 24 = .ok (.iconst (-1), 1) := by decide +kernel
theorem dX0_freeSeat_25 : decode cX0_freeSeat 25 = .ok (.ireturn, 1) := by decide +kernel
theorem dX0_chapterWith_0 : decode cX0_chapterWith 0 = .ok (.aload_n 0, 1) := by decide +kernel
theorem dX0_chapterWith_1 : decode cX0_chapterWith 1 = .ok (.getfield 34, 3) := by decide +kernel
theorem dX0_chapterWith_4 : decode cX0_chapterWith 4 = .ok (.iconst 1, 1) := by decide +kernel
theorem dX0_chapterWith_5 : decode cX0_chapterWith 5 = .ok (.isub, 1) := by decide +kernel
theorem dX0_chapterWith_6 : decode cX0_chapterWith 6 = .ok (.istore_n 2, 1) := by decide +kernel
theorem dX0_chapterWith_7 : decode cX0_chapterWith 7 = .ok (.iload_n 2, 1) := by decide +kernel
theorem dX0_chapterWith_8 : decode cX0_chapterWith 8 = .ok (.ifCond .le 21, 3) := by decide +kernel
theorem dX0_chapterWith_11 : decode cX0_chapterWith 11 = .ok (.aload_n 0, 1) := by decide +kernel
theorem dX0_chapterWith_12 : decode cX0_chapterWith 12 = .ok (.getfield 27, 3) := by decide +kernel
theorem dX0_chapterWith_15 : decode cX0_chapterWith 15 = .ok (.iload_n 2, 1) := by decide +kernel
theorem dX0_chapterWith_16 : decode cX0_chapterWith 16 = .ok (.iaload, 1) := by decide +kernel
theorem dX0_chapterWith_17 : decode cX0_chapterWith 17 = .ok (.iload_n 1, 1) := by decide +kernel
theorem dX0_chapterWith_18 : decode cX0_chapterWith 18 = .ok (.if_icmp .gt 5, 3) := by decide +kernel
theorem dX0_chapterWith_21 : decode cX0_chapterWith 21 = .ok (.iload_n 2, 1) := by decide +kernel
theorem dX0_chapterWith_22 : decode cX0_chapterWith 22 = .ok (.ireturn, 1) := by decide +kernel
theorem dX0_chapterWith_23 : decode cX0_chapterWith 23 = .ok (.iinc 2 (-1), 3) := by decide +kernel
theorem dX0_chapterWith_26 : decode cX0_chapterWith 26 = .ok (.goto (-19), 3) := by decide +kernel
theorem dX0_chapterWith_29 : decode cX0_chapterWith 29 = .ok (.iconst 0, 1) := by decide +kernel
theorem dX0_chapterWith_30 : decode cX0_chapterWith 30 = .ok (.ireturn, 1) := by decide +kernel
theorem dX0_endOf_0 : decode cX0_endOf 0 = .ok (.iload_n 1, 1) := by decide +kernel
theorem dX0_endOf_1 : decode cX0_endOf 1 = .ok (.iconst 1, 1) := by decide +kernel
theorem dX0_endOf_2 : decode cX0_endOf 2 = .ok (.iadd, 1) := by decide +kernel
theorem dX0_endOf_3 : decode cX0_endOf 3 = .ok (.aload_n 0, 1) := by decide +kernel
theorem dX0_endOf_4 : decode cX0_endOf 4 = .ok (.getfield 34, 3) := by decide +kernel
theorem dX0_endOf_7 : decode cX0_endOf 7 = .ok (.if_icmp .ge 16, 3) := by decide +kernel
theorem dX0_endOf_10 : decode cX0_endOf 10 = .ok (.aload_n 0, 1) := by decide +kernel
theorem dX0_endOf_11 : decode cX0_endOf 11 = .ok (.getfield 27, 3) := by decide +kernel
theorem dX0_endOf_14 : decode cX0_endOf 14 = .ok (.iload_n 1, 1) := by decide +kernel
theorem dX0_endOf_15 : decode cX0_endOf 15 = .ok (.iconst 1, 1) := by decide +kernel
theorem dX0_endOf_16 : decode cX0_endOf 16 = .ok (.iadd, 1) := by decide +kernel
theorem dX0_endOf_17 : decode cX0_endOf 17 = .ok (.iaload, 1) := by decide +kernel
theorem dX0_endOf_18 : decode cX0_endOf 18 = .ok (.iconst 1, 1) := by decide +kernel
theorem dX0_endOf_19 : decode cX0_endOf 19 = .ok (.isub, 1) := by decide +kernel
theorem dX0_endOf_20 : decode cX0_endOf 20 = .ok (.goto 5, 3) := by decide +kernel
theorem dX0_endOf_23 : decode cX0_endOf 23 = .ok (.bipush 59, 2) := by decide +kernel
theorem dX0_endOf_25 : decode cX0_endOf 25 = .ok (.ireturn, 1) := by decide +kernel
theorem dX0_isIn_0 : decode cX0_isIn 0 = .ok (.aload_n 0, 1) := by decide +kernel
theorem dX0_isIn_1 : decode cX0_isIn 1 = .ok (.getfield 15, 3) := by decide +kernel
theorem dX0_isIn_4 : decode cX0_isIn 4 = .ok (.iload_n 1, 1) := by decide +kernel
theorem dX0_isIn_5 : decode cX0_isIn 5 = .ok (.iaload, 1) := by decide +kernel
theorem dX0_isIn_6 : decode cX0_isIn 6 = .ok (.istore_n 3, 1) := by decide +kernel
theorem dX0_isIn_7 : decode cX0_isIn 7 = .ok (.iload_n 3, 1) := by decide +kernel
theorem dX0_isIn_8 : decode cX0_isIn 8 = .ok (.aload_n 0, 1) := by decide +kernel
theorem dX0_isIn_9 : decode cX0_isIn 9 = .ok (.getfield 27, 3) := by decide +kernel
theorem dX0_isIn_12 : decode cX0_isIn 12 = .ok (.iload_n 2, 1) := by decide +kernel
theorem dX0_isIn_13 : decode cX0_isIn 13 = .ok (.iaload, 1) := by decide +kernel
theorem dX0_isIn_14 : decode cX0_isIn 14 = .ok (.if_icmp .lt 29, 3) := by decide +kernel
theorem dX0_isIn_17 : decode cX0_isIn 17 = .ok (.iload_n 2, 1) := by decide +kernel
theorem dX0_isIn_18 : decode cX0_isIn 18 = .ok (.iconst 1, 1) := by decide +kernel
theorem dX0_isIn_19 : decode cX0_isIn 19 = .ok (.iadd, 1) := by decide +kernel
theorem dX0_isIn_20 : decode cX0_isIn 20 = .ok (.aload_n 0, 1) := by decide +kernel
theorem dX0_isIn_21 : decode cX0_isIn 21 = .ok (.getfield 34, 3) := by decide +kernel
theorem dX0_isIn_24 : decode cX0_isIn 24 = .ok (.if_icmp .ge 15, 3) := by decide +kernel
theorem dX0_isIn_27 : decode cX0_isIn 27 = .ok (.iload_n 3, 1) := by decide +kernel
theorem dX0_isIn_28 : decode cX0_isIn 28 = .ok (.aload_n 0, 1) := by decide +kernel
theorem dX0_isIn_29 : decode cX0_isIn 29 = .ok (.getfield 27, 3) := by decide +kernel
theorem dX0_isIn_32 : decode cX0_isIn 32 = .ok (.iload_n 2, 1) := by decide +kernel
theorem dX0_isIn_33 : decode cX0_isIn 33 = .ok (.iconst 1, 1) := by decide +kernel
theorem dX0_isIn_34 : decode cX0_isIn 34 = .ok (.iadd, 1) := by decide +kernel
theorem dX0_isIn_35 : decode cX0_isIn 35 = .ok (.iaload, 1) := by decide +kernel
theorem dX0_isIn_36 : decode cX0_isIn 36 = .ok (.if_icmp .ge 7, 3) := by decide +kernel
theorem dX0_isIn_39 : decode cX0_isIn 39 = .ok (.iconst 1, 1) := by decide +kernel
theorem dX0_isIn_40 : decode cX0_isIn 40 = .ok (.goto 4, 3) := by decide +kernel
theorem dX0_isIn_43 : decode cX0_isIn 43 = .ok (.iconst 0, 1) := by decide +kernel
theorem dX0_isIn_44 : decode cX0_isIn 44 = .ok (.ireturn, 1) := by decide +kernel
theorem dX0_heldPageByPage_0 : decode cX0_heldPageByPage 0 = .ok (.iconst 0, 1) := by decide +kernel
theorem dX0_heldPageByPage_1 : decode cX0_heldPageByPage 1 = .ok (.istore_n 2, 1) := by decide +kernel
theorem dX0_heldPageByPage_2 : decode cX0_heldPageByPage 2 = .ok (.aload_n 0, 1) := by decide +kernel
theorem dX0_heldPageByPage_3 : decode cX0_heldPageByPage 3 = .ok (.iload_n 1, 1) := by decide +kernel
theorem dX0_heldPageByPage_4 : decode cX0_heldPageByPage 4 = .ok (.invokevirtual 79, 3) := by decide +kernel
theorem dX0_heldPageByPage_7 : decode cX0_heldPageByPage 7 = .ok (.istore_n 3, 1) := by decide +kernel
theorem dX0_heldPageByPage_8 : decode cX0_heldPageByPage 8 = .ok (.aload_n 0, 1) := by decide +kernel
theorem dX0_heldPageByPage_9 : decode cX0_heldPageByPage 9 = .ok (.getfield 27, 3) := by decide +kernel
theorem dX0_heldPageByPage_12 : decode cX0_heldPageByPage 12 = .ok (.iload_n 1, 1) := by decide +kernel
theorem dX0_heldPageByPage_13 : decode cX0_heldPageByPage 13 = .ok (.iaload, 1) := by decide +kernel
theorem dX0_heldPageByPage_14 : decode cX0_heldPageByPage 14 = .ok (.istore 4, 2) := by decide +kernel
theorem dX0_heldPageByPage_16 : decode cX0_heldPageByPage 16 = .ok (.iload 4, 2) := by decide +kernel
theorem dX0_heldPageByPage_18 : decode cX0_heldPageByPage 18 = .ok (.iload_n 3, 1) := by decide +kernel
theorem dX0_heldPageByPage_19 : decode cX0_heldPageByPage 19 = .ok (.if_icmp .gt 22, 3) := by decide +kernel
theorem dX0_heldPageByPage_22 : decode cX0_heldPageByPage 22 = .ok (.aload_n 0, 1) := by decide +kernel
theorem dX0_heldPageByPage_23 : decode cX0_heldPageByPage 23 = .ok (.iload 4, 2) := by decide +kernel
theorem dX0_heldPageByPage_25 : decode cX0_heldPageByPage 25 = .ok (.invokevirtual 82, 3) := by decide +kernel
theorem dX0_heldPageByPage_28 : decode cX0_heldPageByPage 28 = .ok (.iconst (-1), 1) := by decide +kernel
theorem dX0_heldPageByPage_29 : decode cX0_heldPageByPage 29 = .ok (.if_icmp .eq 6, 3) := by decide +kernel
theorem dX0_heldPageByPage_32 : decode cX0_heldPageByPage 32 = .ok (.iinc 2 1, 3) := by decide +kernel
theorem dX0_heldPageByPage_35 : decode cX0_heldPageByPage 35 = .ok (.iinc 4 1, 3) := by decide +kernel
theorem dX0_heldPageByPage_38 : decode cX0_heldPageByPage 38 = .ok (.goto (-22), 3) := by decide +kernel
theorem dX0_heldPageByPage_41 : decode cX0_heldPageByPage 41 = .ok (.iload_n 2, 1) := by decide +kernel
theorem dX0_heldPageByPage_42 : decode cX0_heldPageByPage 42 = .ok (.ireturn, 1) := by decide +kernel
theorem dX0_heldMarkByMark_0 : decode cX0_heldMarkByMark 0 = .ok (.iconst 0, 1) := by decide +kernel
theorem dX0_heldMarkByMark_1 : decode cX0_heldMarkByMark 1 = .ok (.istore_n 2, 1) := by decide +kernel
theorem dX0_heldMarkByMark_2 : decode cX0_heldMarkByMark 2 = .ok (.iconst 0, 1) := by decide +kernel
theorem dX0_heldMarkByMark_3 : decode cX0_heldMarkByMark 3 = .ok (.istore_n 3, 1) := by decide +kernel
theorem dX0_heldMarkByMark_4 : decode cX0_heldMarkByMark 4 = .ok (.iload_n 3, 1) := by decide +kernel
theorem dX0_heldMarkByMark_5 : decode cX0_heldMarkByMark 5 = .ok (.aload_n 0, 1) := by decide +kernel
theorem dX0_heldMarkByMark_6 : decode cX0_heldMarkByMark 6 = .ok (.getfield 30, 3) := by decide +kernel
theorem dX0_heldMarkByMark_9 : decode cX0_heldMarkByMark 9 = .ok (.if_icmp .ge 21, 3) := by decide +kernel
theorem dX0_heldMarkByMark_12 : decode cX0_heldMarkByMark 12 = .ok (.aload_n 0, 1) := by decide +kernel
theorem dX0_heldMarkByMark_13 : decode cX0_heldMarkByMark 13 = .ok (.iload_n 3, 1) := by decide +kernel
theorem dX0_heldMarkByMark_14 : decode cX0_heldMarkByMark 14 = .ok (.iload_n 1, 1) := by decide +kernel
theorem dX0_heldMarkByMark_15 : decode cX0_heldMarkByMark 15 = .ok (.invokevirtual 85, 3) := by decide +kernel
theorem dX0_heldMarkByMark_18 : decode cX0_heldMarkByMark 18 = .ok (.ifCond .eq 6, 3) := by decide +kernel
theorem dX0_heldMarkByMark_21 : decode cX0_heldMarkByMark 21 = .ok (.iinc 2 1, 3) := by decide +kernel
theorem dX0_heldMarkByMark_24 : decode cX0_heldMarkByMark 24 = .ok (.iinc 3 1, 3) := by decide +kernel
theorem dX0_heldMarkByMark_27 : decode cX0_heldMarkByMark 27 = .ok (.goto (-23), 3) := by decide +kernel
theorem dX0_heldMarkByMark_30 : decode cX0_heldMarkByMark 30 = .ok (.iload_n 2, 1) := by decide +kernel
theorem dX0_heldMarkByMark_31 : decode cX0_heldMarkByMark 31 = .ok (.ireturn, 1) := by decide +kernel
theorem dX0_weightIn_0 : decode cX0_weightIn 0 = .ok (.iconst 0, 1) := by decide +kernel
theorem dX0_weightIn_1 : decode cX0_weightIn 1 = .ok (.istore_n 2, 1) := by decide +kernel
theorem dX0_weightIn_2 : decode cX0_weightIn 2 = .ok (.iconst 0, 1) := by decide +kernel
theorem dX0_weightIn_3 : decode cX0_weightIn 3 = .ok (.istore_n 3, 1) := by decide +kernel
theorem dX0_weightIn_4 : decode cX0_weightIn 4 = .ok (.iload_n 3, 1) := by decide +kernel
theorem dX0_weightIn_5 : decode cX0_weightIn 5 = .ok (.aload_n 0, 1) := by decide +kernel
theorem dX0_weightIn_6 : decode cX0_weightIn 6 = .ok (.getfield 30, 3) := by decide +kernel
theorem dX0_weightIn_9 : decode cX0_weightIn 9 = .ok (.if_icmp .ge 27, 3) := by decide +kernel
theorem dX0_weightIn_12 : decode cX0_weightIn 12 = .ok (.aload_n 0, 1) := by decide +kernel
theorem dX0_weightIn_13 : decode cX0_weightIn 13 = .ok (.iload_n 3, 1) := by decide +kernel
theorem dX0_weightIn_14 : decode cX0_weightIn 14 = .ok (.iload_n 1, 1) := by decide +kernel
theorem dX0_weightIn_15 : decode cX0_weightIn 15 = .ok (.invokevirtual 85, 3) := by decide +kernel
theorem dX0_weightIn_18 : decode cX0_weightIn 18 = .ok (.ifCond .eq 12, 3) := by decide +kernel
theorem dX0_weightIn_21 : decode cX0_weightIn 21 = .ok (.iload_n 2, 1) := by decide +kernel
theorem dX0_weightIn_22 : decode cX0_weightIn 22 = .ok (.aload_n 0, 1) := by decide +kernel
theorem dX0_weightIn_23 : decode cX0_weightIn 23 = .ok (.getfield 18, 3) := by decide +kernel
theorem dX0_weightIn_26 : decode cX0_weightIn 26 = .ok (.iload_n 3, 1) := by decide +kernel
theorem dX0_weightIn_27 : decode cX0_weightIn 27 = .ok (.iaload, 1) := by decide +kernel
theorem dX0_weightIn_28 : decode cX0_weightIn 28 = .ok (.iadd, 1) := by decide +kernel
theorem dX0_weightIn_29 : decode cX0_weightIn 29 = .ok (.istore_n 2, 1) := by decide +kernel
theorem dX0_weightIn_30 : decode cX0_weightIn 30 = .ok (.iinc 3 1, 3) := by decide +kernel
theorem dX0_weightIn_33 : decode cX0_weightIn 33 = .ok (.goto (-29), 3) := by decide +kernel
theorem dX0_weightIn_36 : decode cX0_weightIn 36 = .ok (.iload_n 2, 1) := by decide +kernel
theorem dX0_weightIn_37 : decode cX0_weightIn 37 = .ok (.ireturn, 1) := by decide +kernel
theorem dX0_favour_0 : decode cX0_favour 0 = .ok (.iconst 0, 1) := by decide +kernel
theorem dX0_favour_1 : decode cX0_favour 1 = .ok (.istore_n 2, 1) := by decide +kernel
theorem dX0_favour_2 : decode cX0_favour 2 = .ok (.iconst 0, 1) := by decide +kernel
theorem dX0_favour_3 : decode cX0_favour 3 = .ok (.istore_n 3, 1) := by decide +kernel
theorem dX0_favour_4 : decode cX0_favour 4 = .ok (.iload_n 3, 1) := by decide +kernel
theorem dX0_favour_5 : decode cX0_favour 5 = .ok (.aload_n 0, 1) := by decide +kernel
theorem dX0_favour_6 : decode cX0_favour 6 = .ok (.getfield 30, 3) := by decide +kernel
theorem dX0_favour_9 : decode cX0_favour 9 = .ok (.if_icmp .ge 35, 3) := by decide +kernel
theorem dX0_favour_12 : decode cX0_favour 12 = .ok (.aload_n 0, 1) := by decide +kernel
theorem dX0_favour_13 : decode cX0_favour 13 = .ok (.iload_n 3, 1) := by decide +kernel
theorem dX0_favour_14 : decode cX0_favour 14 = .ok (.invokevirtual 72, 3) := by decide +kernel
theorem dX0_favour_17 : decode cX0_favour 17 = .ok (.ifCond .eq 21, 3) := by decide +kernel
theorem dX0_favour_20 : decode cX0_favour 20 = .ok (.aload_n 0, 1) := by decide +kernel
theorem dX0_favour_21 : decode cX0_favour 21 = .ok (.iload_n 3, 1) := by decide +kernel
theorem dX0_favour_22 : decode cX0_favour 22 = .ok (.iload_n 1, 1) := by decide +kernel
theorem dX0_favour_23 : decode cX0_favour 23 = .ok (.invokevirtual 85, 3) := by decide +kernel
theorem dX0_favour_26 : decode cX0_favour 26 = .ok (.ifCond .ne 12, 3) := by decide +kernel
theorem dX0_favour_29 : decode cX0_favour 29 = .ok (.iload_n 2, 1) := by decide +kernel
theorem dX0_favour_30 : decode cX0_favour 30 = .ok (.aload_n 0, 1) := by decide +kernel
theorem dX0_favour_31 : decode cX0_favour 31 = .ok (.getfield 18, 3) := by decide +kernel
theorem dX0_favour_34 : decode cX0_favour 34 = .ok (.iload_n 3, 1) := by decide +kernel
theorem dX0_favour_35 : decode cX0_favour 35 = .ok (.iaload, 1) := by decide +kernel
theorem dX0_favour_36 : decode cX0_favour 36 = .ok (.iadd, 1) := by decide +kernel
theorem dX0_favour_37 : decode cX0_favour 37 = .ok (.istore_n 2, 1) := by decide +kernel
theorem dX0_favour_38 : decode cX0_favour 38 = .ok (.iinc 3 1, 3) := by decide +kernel
theorem dX0_favour_41 : decode cX0_favour 41 = .ok (.goto (-37), 3) := by decide +kernel
theorem dX0_favour_44 : decode cX0_favour 44 = .ok (.iload_n 2, 1) := by decide +kernel
theorem dX0_favour_45 : decode cX0_favour 45 = .ok (.ireturn, 1) := by decide +kernel
theorem dX0_against_0 : decode cX0_against 0 = .ok (.iconst 0, 1) := by decide +kernel
theorem dX0_against_1 : decode cX0_against 1 = .ok (.istore_n 2, 1) := by decide +kernel
theorem dX0_against_2 : decode cX0_against 2 = .ok (.iconst 0, 1) := by decide +kernel
theorem dX0_against_3 : decode cX0_against 3 = .ok (.istore_n 3, 1) := by decide +kernel
theorem dX0_against_4 : decode cX0_against 4 = .ok (.iload_n 3, 1) := by decide +kernel
theorem dX0_against_5 : decode cX0_against 5 = .ok (.aload_n 0, 1) := by decide +kernel
theorem dX0_against_6 : decode cX0_against 6 = .ok (.getfield 30, 3) := by decide +kernel
theorem dX0_against_9 : decode cX0_against 9 = .ok (.if_icmp .ge 35, 3) := by decide +kernel
theorem dX0_against_12 : decode cX0_against 12 = .ok (.aload_n 0, 1) := by decide +kernel
theorem dX0_against_13 : decode cX0_against 13 = .ok (.iload_n 3, 1) := by decide +kernel
theorem dX0_against_14 : decode cX0_against 14 = .ok (.invokevirtual 72, 3) := by decide +kernel
theorem dX0_against_17 : decode cX0_against 17 = .ok (.ifCond .eq 12, 3) := by decide +kernel
theorem dX0_against_20 : decode cX0_against 20 = .ok (.aload_n 0, 1) := by decide +kernel
theorem dX0_against_21 : decode cX0_against 21 = .ok (.iload_n 3, 1) := by decide +kernel
theorem dX0_against_22 : decode cX0_against 22 = .ok (.iload_n 1, 1) := by decide +kernel
theorem dX0_against_23 : decode cX0_against 23 = .ok (.invokevirtual 85, 3) := by decide +kernel
theorem dX0_against_26 : decode cX0_against 26 = .ok (.ifCond .eq 12, 3) := by decide +kernel
theorem dX0_against_29 : decode cX0_against 29 = .ok (.iload_n 2, 1) := by decide +kernel
theorem dX0_against_30 : decode cX0_against 30 = .ok (.aload_n 0, 1) := by decide +kernel
theorem dX0_against_31 : decode cX0_against 31 = .ok (.getfield 18, 3) := by decide +kernel
theorem dX0_against_34 : decode cX0_against 34 = .ok (.iload_n 3, 1) := by decide +kernel
theorem dX0_against_35 : decode cX0_against 35 = .ok (.iaload, 1) := by decide +kernel
theorem dX0_against_36 : decode cX0_against 36 = .ok (.iadd, 1) := by decide +kernel
theorem dX0_against_37 : decode cX0_against 37 = .ok (.istore_n 2, 1) := by decide +kernel
theorem dX0_against_38 : decode cX0_against 38 = .ok (.iinc 3 1, 3) := by decide +kernel
theorem dX0_against_41 : decode cX0_against 41 = .ok (.goto (-37), 3) := by decide +kernel
theorem dX0_against_44 : decode cX0_against 44 = .ok (.iload_n 2, 1) := by decide +kernel
theorem dX0_against_45 : decode cX0_against 45 = .ok (.ireturn, 1) := by decide +kernel
theorem dX0_weightOfAll_0 : decode cX0_weightOfAll 0 = .ok (.iconst 0, 1) := by decide +kernel
theorem dX0_weightOfAll_1 : decode cX0_weightOfAll 1 = .ok (.istore_n 1, 1) := by decide +kernel
theorem dX0_weightOfAll_2 : decode cX0_weightOfAll 2 = .ok (.iconst 0, 1) := by decide +kernel
theorem dX0_weightOfAll_3 : decode cX0_weightOfAll 3 = .ok (.istore_n 2, 1) := by decide +kernel
theorem dX0_weightOfAll_4 : decode cX0_weightOfAll 4 = .ok (.iload_n 2, 1) := by decide +kernel
theorem dX0_weightOfAll_5 : decode cX0_weightOfAll 5 = .ok (.aload_n 0, 1) := by decide +kernel
theorem dX0_weightOfAll_6 : decode cX0_weightOfAll 6 = .ok (.getfield 30, 3) := by decide +kernel
theorem dX0_weightOfAll_9 : decode cX0_weightOfAll 9 = .ok (.if_icmp .ge 18, 3) := by decide +kernel
theorem dX0_weightOfAll_12 : decode cX0_weightOfAll 12 = .ok (.iload_n 1, 1) := by decide +kernel
theorem dX0_weightOfAll_13 : decode cX0_weightOfAll 13 = .ok (.aload_n 0, 1) := by decide +kernel
theorem dX0_weightOfAll_14 : decode cX0_weightOfAll 14 = .ok (.getfield 18, 3) := by decide +kernel
theorem dX0_weightOfAll_17 : decode cX0_weightOfAll 17 = .ok (.iload_n 2, 1) := by decide +kernel
theorem dX0_weightOfAll_18 : decode cX0_weightOfAll 18 = .ok (.iaload, 1) := by decide +kernel
theorem dX0_weightOfAll_19 : decode cX0_weightOfAll 19 = .ok (.iadd, 1) := by decide +kernel
theorem dX0_weightOfAll_20 : decode cX0_weightOfAll 20 = .ok (.istore_n 1, 1) := by decide +kernel
theorem dX0_weightOfAll_21 : decode cX0_weightOfAll 21 = .ok (.iinc 2 1, 3) := by decide +kernel
theorem dX0_weightOfAll_24 : decode cX0_weightOfAll 24 = .ok (.goto (-20), 3) := by decide +kernel
theorem dX0_weightOfAll_27 : decode cX0_weightOfAll 27 = .ok (.iload_n 1, 1) := by decide +kernel
theorem dX0_weightOfAll_28 : decode cX0_weightOfAll 28 = .ok (.ireturn, 1) := by decide +kernel
theorem dX0_againstByTotal_0 : decode cX0_againstByTotal 0 = .ok (.aload_n 0, 1) := by decide +kernel
theorem dX0_againstByTotal_1 : decode cX0_againstByTotal 1 = .ok (.invokevirtual 88, 3) := by decide +kernel
theorem dX0_againstByTotal_4 : decode cX0_againstByTotal 4 = .ok (.aload_n 0, 1) := by decide +kernel
theorem dX0_againstByTotal_5 : decode cX0_againstByTotal 5 = .ok (.iload_n 1, 1) := by decide +kernel
theorem dX0_againstByTotal_6 : decode cX0_againstByTotal 6 = .ok (.invokevirtual 92, 3) := by decide +kernel
theorem dX0_againstByTotal_9 : decode cX0_againstByTotal 9 = .ok (.isub, 1) := by decide +kernel
theorem dX0_againstByTotal_10 : decode cX0_againstByTotal 10 = .ok (.ireturn, 1) := by decide +kernel
theorem dX0_wouldCarry_0 : decode cX0_wouldCarry 0 = .ok (.aload_n 0, 1) := by decide +kernel
theorem dX0_wouldCarry_1 : decode cX0_wouldCarry 1 = .ok (.iload_n 1, 1) := by decide +kernel
theorem dX0_wouldCarry_2 : decode cX0_wouldCarry 2 = .ok (.invokevirtual 92, 3) := by decide +kernel
theorem dX0_wouldCarry_5 : decode cX0_wouldCarry 5 = .ok (.aload_n 0, 1) := by decide +kernel
theorem dX0_wouldCarry_6 : decode cX0_wouldCarry 6 = .ok (.iload_n 1, 1) := by decide +kernel
theorem dX0_wouldCarry_7 : decode cX0_wouldCarry 7 = .ok (.invokevirtual 95, 3) := by decide +kernel
theorem dX0_wouldCarry_10 : decode cX0_wouldCarry 10 = .ok (.if_icmp .le 7, 3) := by decide +kernel
theorem dX0_wouldCarry_13 : decode cX0_wouldCarry 13 = .ok (.iconst 1, 1) := by decide +kernel
theorem dX0_wouldCarry_14 : decode cX0_wouldCarry 14 = .ok (.goto 4, 3) := by decide +kernel
theorem dX0_wouldCarry_17 : decode cX0_wouldCarry 17 = .ok (.iconst 0, 1) := by decide +kernel
theorem dX0_wouldCarry_18 : decode cX0_wouldCarry 18 = .ok (.ireturn, 1) := by decide +kernel
theorem dX0_heaviest_0 : decode cX0_heaviest 0 = .ok (.iconst 0, 1) := by decide +kernel
theorem dX0_heaviest_1 : decode cX0_heaviest 1 = .ok (.istore_n 1, 1) := by decide +kernel
theorem dX0_heaviest_2 : decode cX0_heaviest 2 = .ok (.iconst 1, 1) := by decide +kernel
theorem dX0_heaviest_3 : decode cX0_heaviest 3 = .ok (.istore_n 2, 1) := by decide +kernel
theorem dX0_heaviest_4 : decode cX0_heaviest 4 = .ok (.iload_n 2, 1) := by decide +kernel
theorem dX0_heaviest_5 : decode cX0_heaviest 5 = .ok (.aload_n 0, 1) := by decide +kernel
theorem dX0_heaviest_6 : decode cX0_heaviest 6 = .ok (.getfield 34, 3) := by decide +kernel
theorem dX0_heaviest_9 : decode cX0_heaviest 9 = .ok (.if_icmp .ge 24, 3) := by decide +kernel
theorem dX0_heaviest_12 : decode cX0_heaviest 12 = .ok (.aload_n 0, 1) := by decide +kernel
theorem dX0_heaviest_13 : decode cX0_heaviest 13 = .ok (.iload_n 2, 1) := by decide +kernel
theorem dX0_heaviest_14 : decode cX0_heaviest 14 = .ok (.invokevirtual 98, 3) := by decide +kernel
theorem dX0_heaviest_17 : decode cX0_heaviest 17 = .ok (.aload_n 0, 1) := by decide +kernel
theorem dX0_heaviest_18 : decode cX0_heaviest 18 = .ok (.iload_n 1, 1) := by decide +kernel
theorem dX0_heaviest_19 : decode cX0_heaviest 19 = .ok (.invokevirtual 98, 3) := by decide +kernel
theorem dX0_heaviest_22 : decode cX0_heaviest 22 = .ok (.if_icmp .le 5, 3) := by decide +kernel
theorem dX0_heaviest_25 : decode cX0_heaviest 25 = .ok (.iload_n 2, 1) := by decide +kernel
theorem dX0_heaviest_26 : decode cX0_heaviest 26 = .ok (.istore_n 1, 1) := by decide +kernel
theorem dX0_heaviest_27 : decode cX0_heaviest 27 = .ok (.iinc 2 1, 3) := by decide +kernel
theorem dX0_heaviest_30 : decode cX0_heaviest 30 = .ok (.goto (-26), 3) := by decide +kernel
theorem dX0_heaviest_33 : decode cX0_heaviest 33 = .ok (.iload_n 1, 1) := by decide +kernel
theorem dX0_heaviest_34 : decode cX0_heaviest 34 = .ok (.ireturn, 1) := by decide +kernel
theorem dX0_weightOfKind_0 : decode cX0_weightOfKind 0 = .ok (.iconst 0, 1) := by decide +kernel
theorem dX0_weightOfKind_1 : decode cX0_weightOfKind 1 = .ok (.istore_n 2, 1) := by decide +kernel
theorem dX0_weightOfKind_2 : decode cX0_weightOfKind 2 = .ok (.iconst 0, 1) := by decide +kernel
theorem dX0_weightOfKind_3 : decode cX0_weightOfKind 3 = .ok (.istore_n 3, 1) := by decide +kernel
theorem dX0_weightOfKind_4 : decode cX0_weightOfKind 4 = .ok (.iload_n 3, 1) := by decide +kernel
theorem dX0_weightOfKind_5 : decode cX0_weightOfKind 5 = .ok (.aload_n 0, 1) := by decide +kernel
theorem dX0_weightOfKind_6 : decode cX0_weightOfKind 6 = .ok (.getfield 30, 3) := by decide +kernel
theorem dX0_weightOfKind_9 : decode cX0_weightOfKind 9 = .ok (.if_icmp .ge 27, 3) := by decide +kernel
theorem dX0_weightOfKind_12 : decode cX0_weightOfKind 12 = .ok (.aload_n 0, 1) := by decide +kernel
theorem dX0_weightOfKind_13 : decode cX0_weightOfKind 13 = .ok (.iload_n 3, 1) := by decide +kernel
theorem dX0_weightOfKind_14 : decode cX0_weightOfKind 14 = .ok (.invokevirtual 72, 3) := by decide +kernel
theorem dX0_weightOfKind_17 : decode cX0_weightOfKind 17 = .ok (.iload_n 1, 1) := by decide +kernel
theorem dX0_weightOfKind_18 : decode cX0_weightOfKind 18 = .ok (.if_icmp .ne 12, 3) := by decide +kernel
theorem dX0_weightOfKind_21 : decode cX0_weightOfKind 21 = .ok (.iload_n 2, 1) := by decide +kernel
theorem dX0_weightOfKind_22 : decode cX0_weightOfKind 22 = .ok (.aload_n 0, 1) := by decide +kernel
theorem dX0_weightOfKind_23 : decode cX0_weightOfKind 23 = .ok (.getfield 18, 3) := by decide +kernel
theorem dX0_weightOfKind_26 : decode cX0_weightOfKind 26 = .ok (.iload_n 3, 1) := by decide +kernel
theorem dX0_weightOfKind_27 : decode cX0_weightOfKind 27 = .ok (.iaload, 1) := by decide +kernel
theorem dX0_weightOfKind_28 : decode cX0_weightOfKind 28 = .ok (.iadd, 1) := by decide +kernel
theorem dX0_weightOfKind_29 : decode cX0_weightOfKind 29 = .ok (.istore_n 2, 1) := by decide +kernel
theorem dX0_weightOfKind_30 : decode cX0_weightOfKind 30 = .ok (.iinc 3 1, 3) := by decide +kernel
theorem dX0_weightOfKind_33 : decode cX0_weightOfKind 33 = .ok (.goto (-29), 3) := by decide +kernel
theorem dX0_weightOfKind_36 : decode cX0_weightOfKind 36 = .ok (.iload_n 2, 1) := by decide +kernel
theorem dX0_weightOfKind_37 : decode cX0_weightOfKind 37 = .ok (.ireturn, 1) := by decide +kernel
theorem dX0_ribbons_0 : decode cX0_ribbons 0 = .ok (.iconst 0, 1) := by decide +kernel
theorem dX0_ribbons_1 : decode cX0_ribbons 1 = .ok (.istore_n 1, 1) := by decide +kernel
theorem dX0_ribbons_2 : decode cX0_ribbons 2 = .ok (.iconst 0, 1) := by decide +kernel
theorem dX0_ribbons_3 : decode cX0_ribbons 3 = .ok (.istore_n 2, 1) := by decide +kernel
theorem dX0_ribbons_4 : decode cX0_ribbons 4 = .ok (.iload_n 2, 1) := by decide +kernel
theorem dX0_ribbons_5 : decode cX0_ribbons 5 = .ok (.aload_n 0, 1) := by decide +kernel
theorem dX0_ribbons_6 : decode cX0_ribbons 6 = .ok (.getfield 30, 3) := by decide +kernel
theorem dX0_ribbons_9 : decode cX0_ribbons 9 = .ok (.if_icmp .ge 20, 3) := by decide +kernel
theorem dX0_ribbons_12 : decode cX0_ribbons 12 = .ok (.aload_n 0, 1) := by decide +kernel
theorem dX0_ribbons_13 : decode cX0_ribbons 13 = .ok (.iload_n 2, 1) := by decide +kernel
theorem dX0_ribbons_14 : decode cX0_ribbons 14 = .ok (.invokevirtual 72, 3) := by decide +kernel
theorem dX0_ribbons_17 : decode cX0_ribbons 17 = .ok (.ifCond .eq 6, 3) := by decide +kernel
theorem dX0_ribbons_20 : decode cX0_ribbons 20 = .ok (.iinc 1 1, 3) := by decide +kernel
theorem dX0_ribbons_23 : decode cX0_ribbons 23 = .ok (.iinc 2 1, 3) := by decide +kernel
theorem dX0_ribbons_26 : decode cX0_ribbons 26 = .ok (.goto (-22), 3) := by decide +kernel
theorem dX0_ribbons_29 : decode cX0_ribbons 29 = .ok (.iload_n 1, 1) := by decide +kernel
theorem dX0_ribbons_30 : decode cX0_ribbons 30 = .ok (.ireturn, 1) := by decide +kernel
theorem dX0_spanStepByStep_0 : decode cX0_spanStepByStep 0 = .ok (.iconst 0, 1) := by decide +kernel
theorem dX0_spanStepByStep_1 : decode cX0_spanStepByStep 1 = .ok (.istore_n 1, 1) := by decide +kernel
theorem dX0_spanStepByStep_2 : decode cX0_spanStepByStep 2 = .ok (.iconst 1, 1) := by decide +kernel
theorem dX0_spanStepByStep_3 : decode cX0_spanStepByStep 3 = .ok (.istore_n 2, 1) := by decide +kernel
theorem dX0_spanStepByStep_4 : decode cX0_spanStepByStep 4 = .ok (.iload_n 2, 1) := by decide +kernel
theorem dX0_spanStepByStep_5 : decode cX0_spanStepByStep 5 = .ok (.aload_n 0, 1) := by decide +kernel
theorem dX0_spanStepByStep_6 : decode cX0_spanStepByStep 6 = .ok (.getfield 30, 3) := by decide +kernel
theorem dX0_spanStepByStep_9 : decode cX0_spanStepByStep 9 = .ok (.if_icmp .ge 27, 3) := by decide +kernel
theorem dX0_spanStepByStep_12 : decode cX0_spanStepByStep 12 = .ok (.iload_n 1, 1) := by decide +kernel
theorem dX0_spanStepByStep_13 : decode cX0_spanStepByStep 13 = .ok (.aload_n 0, 1) := by decide +kernel
theorem dX0_spanStepByStep_14 : decode cX0_spanStepByStep 14 = .ok (.getfield 15, 3) := by decide +kernel
theorem dX0_spanStepByStep_17 : decode cX0_spanStepByStep 17 = .ok (.iload_n 2, 1) := by decide +kernel
theorem dX0_spanStepByStep_18 : decode cX0_spanStepByStep 18 = .ok (.iaload, 1) := by decide +kernel
theorem dX0_spanStepByStep_19 : decode cX0_spanStepByStep 19 = .ok (.aload_n 0, 1) := by decide +kernel
theorem dX0_spanStepByStep_20 : decode cX0_spanStepByStep 20 = .ok (.getfield 15, 3) := by decide +kernel
theorem dX0_spanStepByStep_23 : decode cX0_spanStepByStep 23 = .ok (.iload_n 2, 1) := by decide +kernel
theorem dX0_spanStepByStep_24 : decode cX0_spanStepByStep 24 = .ok (.iconst 1, 1) := by decide +kernel
theorem dX0_spanStepByStep_25 : decode cX0_spanStepByStep 25 = .ok (.isub, 1) := by decide +kernel
theorem dX0_spanStepByStep_26 : decode cX0_spanStepByStep 26 = .ok (.iaload, 1) := by decide +kernel
theorem dX0_spanStepByStep_27 : decode cX0_spanStepByStep 27 = .ok (.isub, 1) := by decide +kernel
theorem dX0_spanStepByStep_28 : decode cX0_spanStepByStep 28 = .ok (.iadd, 1) := by decide +kernel
theorem dX0_spanStepByStep_29 : decode cX0_spanStepByStep 29 = .ok (.istore_n 1, 1) := by decide +kernel
theorem dX0_spanStepByStep_30 : decode cX0_spanStepByStep 30 = .ok (.iinc 2 1, 3) := by decide +kernel
theorem dX0_spanStepByStep_33 : decode cX0_spanStepByStep 33 = .ok (.goto (-29), 3) := by decide +kernel
theorem dX0_spanStepByStep_36 : decode cX0_spanStepByStep 36 = .ok (.iload_n 1, 1) := by decide +kernel
theorem dX0_spanStepByStep_37 : decode cX0_spanStepByStep 37 = .ok (.ireturn, 1) := by decide +kernel
theorem dX0_spanEndToEnd_0 : decode cX0_spanEndToEnd 0 = .ok (.aload_n 0, 1) := by decide +kernel
theorem dX0_spanEndToEnd_1 : decode cX0_spanEndToEnd 1 = .ok (.getfield 30, 3) := by decide +kernel
theorem dX0_spanEndToEnd_4 : decode cX0_spanEndToEnd 4 = .ok (.iconst 2, 1) := by decide +kernel
theorem dX0_spanEndToEnd_5 : decode cX0_spanEndToEnd 5 = .ok (.if_icmp .ge 7, 3) := by decide +kernel
theorem dX0_spanEndToEnd_8 : decode cX0_spanEndToEnd 8 = .ok (.iconst 0, 1) := by decide +kernel
theorem dX0_spanEndToEnd_9 : decode cX0_spanEndToEnd 9 = .ok (.goto 21, 3) := by decide +kernel
theorem dX0_spanEndToEnd_12 : decode cX0_spanEndToEnd 12 = .ok (.aload_n 0, 1) := by decide +kernel
theorem dX0_spanEndToEnd_13 : decode cX0_spanEndToEnd 13 = .ok (.getfield 15, 3) := by decide +kernel
theorem dX0_spanEndToEnd_16 : decode cX0_spanEndToEnd 16 = .ok (.aload_n 0, 1) := by decide +kernel
theorem dX0_spanEndToEnd_17 : decode cX0_spanEndToEnd 17 = .ok (.getfield 30, 3) := by decide +kernel
theorem dX0_spanEndToEnd_20 : decode cX0_spanEndToEnd 20 = .ok (.iconst 1, 1) := by decide +kernel
theorem dX0_spanEndToEnd_21 : decode cX0_spanEndToEnd 21 = .ok (.isub, 1) := by decide +kernel
theorem dX0_spanEndToEnd_22 : decode cX0_spanEndToEnd 22 = .ok (.iaload, 1) := by decide +kernel
theorem dX0_spanEndToEnd_23 : decode cX0_spanEndToEnd 23 = .ok (.aload_n 0, 1) := by decide +kernel
theorem dX0_spanEndToEnd_24 : decode cX0_spanEndToEnd 24 = .ok (.getfield 15, 3) := by decide +kernel
theorem dX0_spanEndToEnd_27 : decode cX0_spanEndToEnd 27 = .ok (.iconst 0, 1) := by decide +kernel
theorem dX0_spanEndToEnd_28 : decode cX0_spanEndToEnd 28 = .ok (.iaload, 1) := by decide +kernel
theorem dX0_spanEndToEnd_29 : decode cX0_spanEndToEnd 29 = .ok (.isub, 1) := by decide +kernel
theorem dX0_spanEndToEnd_30 : decode cX0_spanEndToEnd 30 = .ok (.ireturn, 1) := by decide +kernel
theorem dX0_chapterWaysAgree_0 : decode cX0_chapterWaysAgree 0 = .ok (.iconst 0, 1) := by decide +kernel
theorem dX0_chapterWaysAgree_1 : decode cX0_chapterWaysAgree 1 = .ok (.istore_n 1, 1) := by decide +kernel
theorem dX0_chapterWaysAgree_2 : decode cX0_chapterWaysAgree 2 = .ok (.iload_n 1, 1) := by decide +kernel
theorem dX0_chapterWaysAgree_3 : decode cX0_chapterWaysAgree 3 = .ok (.aload_n 0, 1) := by decide +kernel
theorem dX0_chapterWaysAgree_4 : decode cX0_chapterWaysAgree 4 = .ok (.getfield 34, 3) := by decide +kernel
theorem dX0_chapterWaysAgree_7 : decode cX0_chapterWaysAgree 7 = .ok (.if_icmp .ge 39, 3) := by decide +kernel
theorem dX0_chapterWaysAgree_10 : decode cX0_chapterWaysAgree 10 = .ok (.aload_n 0, 1) := by decide +kernel
theorem dX0_chapterWaysAgree_11 : decode cX0_chapterWaysAgree 11 = .ok (.iload_n 1, 1) := by decide +kernel
theorem dX0_chapterWaysAgree_12 : decode cX0_chapterWaysAgree 12 = .ok (.invokevirtual 101, 3) := by decide +kernel
theorem dX0_chapterWaysAgree_15 : decode cX0_chapterWaysAgree 15 = .ok (.aload_n 0, 1) := by decide +kernel
theorem dX0_chapterWaysAgree_16 : decode cX0_chapterWaysAgree 16 = .ok (.iload_n 1, 1) := by decide +kernel
theorem dX0_chapterWaysAgree_17 : decode cX0_chapterWaysAgree 17 = .ok (.invokevirtual 104, 3) := by decide +kernel
theorem dX0_chapterWaysAgree_20 : decode cX0_chapterWaysAgree 20 = .ok (.if_icmp .eq 5, 3) := by decide +kernel
theorem dX0_chapterWaysAgree_23 : decode cX0_chapterWaysAgree 23 = .ok (.iconst 0, 1) := by decide +kernel
theorem dX0_chapterWaysAgree_24 : decode cX0_chapterWaysAgree 24 = .ok (.ireturn, 1) := by decide +kernel
theorem dX0_chapterWaysAgree_25 : decode cX0_chapterWaysAgree 25 = .ok (.aload_n 0, 1) := by decide +kernel
theorem dX0_chapterWaysAgree_26 : decode cX0_chapterWaysAgree 26 = .ok (.iload_n 1, 1) := by decide +kernel
theorem dX0_chapterWaysAgree_27 : decode cX0_chapterWaysAgree 27 = .ok (.invokevirtual 95, 3) := by decide +kernel
theorem dX0_chapterWaysAgree_30 : decode cX0_chapterWaysAgree 30 = .ok (.aload_n 0, 1) := by decide +kernel
theorem dX0_chapterWaysAgree_31 : decode cX0_chapterWaysAgree 31 = .ok (.iload_n 1, 1) := by decide +kernel
theorem dX0_chapterWaysAgree_32 : decode cX0_chapterWaysAgree 32 = .ok (.invokevirtual 107, 3) := by decide +kernel
theorem dX0_chapterWaysAgree_35 : decode cX0_chapterWaysAgree 35 = .ok (.if_icmp .eq 5, 3) := by decide +kernel
theorem dX0_chapterWaysAgree_38 : decode cX0_chapterWaysAgree 38 = .ok (.iconst 0, 1) := by decide +kernel
theorem dX0_chapterWaysAgree_39 : decode cX0_chapterWaysAgree 39 = .ok (.ireturn, 1) := by decide +kernel
theorem dX0_chapterWaysAgree_40 : decode cX0_chapterWaysAgree 40 = .ok (.iinc 1 1, 3) := by decide +kernel
theorem dX0_chapterWaysAgree_43 : decode cX0_chapterWaysAgree 43 = .ok (.goto (-41), 3) := by decide +kernel
theorem dX0_chapterWaysAgree_46 : decode cX0_chapterWaysAgree 46 = .ok (.iconst 1, 1) := by decide +kernel
theorem dX0_chapterWaysAgree_47 : decode cX0_chapterWaysAgree 47 = .ok (.ireturn, 1) := by decide +kernel
theorem dX0_pagesDiffer_0 : decode cX0_pagesDiffer 0 = .ok (.iconst 0, 1) := by decide +kernel
theorem dX0_pagesDiffer_1 : decode cX0_pagesDiffer 1 = .ok (.istore_n 1, 1) := by decide +kernel
theorem dX0_pagesDiffer_2 : decode cX0_pagesDiffer 2 = .ok (.iload_n 1, 1) := by decide +kernel
theorem dX0_pagesDiffer_3 : decode cX0_pagesDiffer 3 = .ok (.aload_n 0, 1) := by decide +kernel
theorem dX0_pagesDiffer_4 : decode cX0_pagesDiffer 4 = .ok (.getfield 30, 3) := by decide +kernel
theorem dX0_pagesDiffer_7 : decode cX0_pagesDiffer 7 = .ok (.if_icmp .ge 25, 3) := by decide +kernel
theorem dX0_pagesDiffer_10 : decode cX0_pagesDiffer 10 = .ok (.aload_n 0, 1) := by decide +kernel
theorem dX0_pagesDiffer_11 : decode cX0_pagesDiffer 11 = .ok (.aload_n 0, 1) := by decide +kernel
theorem dX0_pagesDiffer_12 : decode cX0_pagesDiffer 12 = .ok (.getfield 15, 3) := by decide +kernel
theorem dX0_pagesDiffer_15 : decode cX0_pagesDiffer 15 = .ok (.iload_n 1, 1) := by decide +kernel
theorem dX0_pagesDiffer_16 : decode cX0_pagesDiffer 16 = .ok (.iaload, 1) := by decide +kernel
theorem dX0_pagesDiffer_17 : decode cX0_pagesDiffer 17 = .ok (.invokevirtual 82, 3) := by decide +kernel
theorem dX0_pagesDiffer_20 : decode cX0_pagesDiffer 20 = .ok (.iload_n 1, 1) := by decide +kernel
theorem dX0_pagesDiffer_21 : decode cX0_pagesDiffer 21 = .ok (.if_icmp .eq 5, 3) := by decide +kernel
theorem dX0_pagesDiffer_24 : decode cX0_pagesDiffer 24 = .ok (.iconst 0, 1) := by decide +kernel
theorem dX0_pagesDiffer_25 : decode cX0_pagesDiffer 25 = .ok (.ireturn, 1) := by decide +kernel
theorem dX0_pagesDiffer_26 : decode cX0_pagesDiffer 26 = .ok (.iinc 1 1, 3) := by decide +kernel
theorem dX0_pagesDiffer_29 : decode cX0_pagesDiffer 29 = .ok (.goto (-27), 3) := by decide +kernel
theorem dX0_pagesDiffer_32 : decode cX0_pagesDiffer 32 = .ok (.iconst 1, 1) := by decide +kernel
theorem dX0_pagesDiffer_33 : decode cX0_pagesDiffer 33 = .ok (.ireturn, 1) := by decide +kernel
theorem dX0_seatsDiffer_0 : decode cX0_seatsDiffer 0 = .ok (.iconst 0, 1) := by decide +kernel
theorem dX0_seatsDiffer_1 : decode cX0_seatsDiffer 1 = .ok (.istore_n 1, 1) := by decide +kernel
theorem dX0_seatsDiffer_2 : decode cX0_seatsDiffer 2 = .ok (.iload_n 1, 1) := by decide +kernel
theorem dX0_seatsDiffer_3 : decode cX0_seatsDiffer 3 = .ok (.aload_n 0, 1) := by decide +kernel
theorem dX0_seatsDiffer_4 : decode cX0_seatsDiffer 4 = .ok (.getfield 30, 3) := by decide +kernel
theorem dX0_seatsDiffer_7 : decode cX0_seatsDiffer 7 = .ok (.if_icmp .ge 33, 3) := by decide +kernel
theorem dX0_seatsDiffer_10 : decode cX0_seatsDiffer 10 = .ok (.aload_n 0, 1) := by decide +kernel
theorem dX0_seatsDiffer_11 : decode cX0_seatsDiffer 11 = .ok (.iload_n 1, 1) := by decide +kernel
theorem dX0_seatsDiffer_12 : decode cX0_seatsDiffer 12 = .ok (.invokevirtual 72, 3) := by decide +kernel
theorem dX0_seatsDiffer_15 : decode cX0_seatsDiffer 15 = .ok (.ifCond .eq 19, 3) := by decide +kernel
theorem dX0_seatsDiffer_18 : decode cX0_seatsDiffer 18 = .ok (.aload_n 0, 1) := by decide +kernel
theorem dX0_seatsDiffer_19 : decode cX0_seatsDiffer 19 = .ok (.aload_n 0, 1) := by decide +kernel
theorem dX0_seatsDiffer_20 : decode cX0_seatsDiffer 20 = .ok (.getfield 24, 3) := by decide +kernel
theorem dX0_seatsDiffer_23 : decode cX0_seatsDiffer 23 = .ok (.iload_n 1, 1) := by decide +kernel
theorem dX0_seatsDiffer_24 : decode cX0_seatsDiffer 24 = .ok (.iaload, 1) := by decide +kernel
theorem dX0_seatsDiffer_25 : decode cX0_seatsDiffer 25 = .ok (.invokevirtual 76, 3) := by decide +kernel
theorem dX0_seatsDiffer_28 : decode cX0_seatsDiffer 28 = .ok (.iload_n 1, 1) := by decide +kernel
theorem dX0_seatsDiffer_29 : decode cX0_seatsDiffer 29 = .ok (.if_icmp .eq 5, 3) := by decide +kernel
theorem dX0_seatsDiffer_32 : decode cX0_seatsDiffer 32 = .ok (.iconst 0, 1) := by decide +kernel
theorem dX0_seatsDiffer_33 : decode cX0_seatsDiffer 33 = .ok (.ireturn, 1) := by decide +kernel
theorem dX0_seatsDiffer_34 : decode cX0_seatsDiffer 34 = .ok (.iinc 1 1, 3) := by decide +kernel
theorem dX0_seatsDiffer_37 : decode cX0_seatsDiffer 37 = .ok (.goto (-35), 3) := by decide +kernel
theorem dX0_seatsDiffer_40 : decode cX0_seatsDiffer 40 = .ok (.iconst 1, 1) := by decide +kernel
theorem dX0_seatsDiffer_41 : decode cX0_seatsDiffer 41 = .ok (.ireturn, 1) := by decide +kernel
theorem dX0_accepts_0 : decode cX0_accepts 0 = .ok (.iload_n 1, 1) := by decide +kernel
theorem dX0_accepts_1 : decode cX0_accepts 1 = .ok (.tableswitch 199 67 88 #[187, 199, 103, 199, 199, 199, 199, 199, 199, 199, 140, 199, 199, 199, 199, 103, 163, 199, 199, 193, 199, 125], 103) := by decide +kernel
theorem dX0_accepts_104 : decode cX0_accepts 104 = .ok (.aload_n 0, 1) := by decide +kernel
theorem dX0_accepts_105 : decode cX0_accepts 105 = .ok (.iload_n 2, 1) := by decide +kernel
theorem dX0_accepts_106 : decode cX0_accepts 106 = .ok (.invokevirtual 110, 3) := by decide +kernel
theorem dX0_accepts_109 : decode cX0_accepts 109 = .ok (.ifCond .eq 15, 3) := by decide +kernel
theorem dX0_accepts_112 : decode cX0_accepts 112 = .ok (.aload_n 0, 1) := by decide +kernel
theorem dX0_accepts_113 : decode cX0_accepts 113 = .ok (.iload_n 3, 1) := by decide +kernel
theorem dX0_accepts_114 : decode cX0_accepts 114 = .ok (.invokevirtual 113, 3) := by decide +kernel
theorem dX0_accepts_117 : decode cX0_accepts 117 = .ok (.ifCond .eq 7, 3) := by decide +kernel
theorem dX0_accepts_120 : decode cX0_accepts 120 = .ok (.iconst 1, 1) := by decide +kernel
theorem dX0_accepts_121 : decode cX0_accepts 121 = .ok (.goto 4, 3) := by decide +kernel
theorem dX0_accepts_124 : decode cX0_accepts 124 = .ok (.iconst 0, 1) := by decide +kernel
theorem dX0_accepts_125 : decode cX0_accepts 125 = .ok (.ireturn, 1) := by decide +kernel
theorem dX0_accepts_126 : decode cX0_accepts 126 = .ok (.aload_n 0, 1) := by decide +kernel
theorem dX0_accepts_127 : decode cX0_accepts 127 = .ok (.iload_n 2, 1) := by decide +kernel
theorem dX0_accepts_128 : decode cX0_accepts 128 = .ok (.invokevirtual 116, 3) := by decide +kernel
theorem dX0_accepts_131 : decode cX0_accepts 131 = .ok (.iconst (-1), 1) := by decide +kernel
theorem dX0_accepts_132 : decode cX0_accepts 132 = .ok (.if_icmp .eq 7, 3) := by decide +kernel
theorem dX0_accepts_135 : decode cX0_accepts 135 = .ok (.iconst 1, 1) := by decide +kernel
theorem dX0_accepts_136 : decode cX0_accepts 136 = .ok (.goto 4, 3) := by decide +kernel
theorem dX0_accepts_139 : decode cX0_accepts 139 = .ok (.iconst 0, 1) := by decide +kernel
theorem dX0_accepts_140 : decode cX0_accepts 140 = .ok (.ireturn, 1) := by decide +kernel
theorem dX0_accepts_141 : decode cX0_accepts 141 = .ok (.aload_n 0, 1) := by decide +kernel
theorem dX0_accepts_142 : decode cX0_accepts 142 = .ok (.iload_n 2, 1) := by decide +kernel
theorem dX0_accepts_143 : decode cX0_accepts 143 = .ok (.invokevirtual 116, 3) := by decide +kernel
theorem dX0_accepts_146 : decode cX0_accepts 146 = .ok (.iconst (-1), 1) := by decide +kernel
theorem dX0_accepts_147 : decode cX0_accepts 147 = .ok (.if_icmp .eq 15, 3) := by decide +kernel
theorem dX0_accepts_150 : decode cX0_accepts 150 = .ok (.aload_n 0, 1) := by decide +kernel
theorem dX0_accepts_151 : decode cX0_accepts 151 = .ok (.iload_n 3, 1) := by decide +kernel
theorem dX0_accepts_152 : decode cX0_accepts 152 = .ok (.invokevirtual 110, 3) := by decide +kernel
theorem dX0_accepts_155 : decode cX0_accepts 155 = .ok (.ifCond .eq 7, 3) := by decide +kernel
theorem dX0_accepts_158 : decode cX0_accepts 158 = .ok (.iconst 1, 1) := by decide +kernel
theorem dX0_accepts_159 : decode cX0_accepts 159 = .ok (.goto 4, 3) := by decide +kernel
theorem dX0_accepts_162 : decode cX0_accepts 162 = .ok (.iconst 0, 1) := by decide +kernel
theorem dX0_accepts_163 : decode cX0_accepts 163 = .ok (.ireturn, 1) := by decide +kernel
theorem dX0_accepts_164 : decode cX0_accepts 164 = .ok (.aload_n 0, 1) := by decide +kernel
theorem dX0_accepts_165 : decode cX0_accepts 165 = .ok (.iload_n 2, 1) := by decide +kernel
theorem dX0_accepts_166 : decode cX0_accepts 166 = .ok (.invokevirtual 116, 3) := by decide +kernel
theorem dX0_accepts_169 : decode cX0_accepts 169 = .ok (.iconst (-1), 1) := by decide +kernel
theorem dX0_accepts_170 : decode cX0_accepts 170 = .ok (.if_icmp .eq 16, 3) := by decide +kernel
theorem dX0_accepts_173 : decode cX0_accepts 173 = .ok (.aload_n 0, 1) := by decide +kernel
theorem dX0_accepts_174 : decode cX0_accepts 174 = .ok (.iload_n 3, 1) := by decide +kernel
theorem dX0_accepts_175 : decode cX0_accepts 175 = .ok (.invokevirtual 116, 3) := by decide +kernel
theorem dX0_accepts_178 : decode cX0_accepts 178 = .ok (.iconst (-1), 1) := by decide +kernel
theorem dX0_accepts_179 : decode cX0_accepts 179 = .ok (.if_icmp .eq 7, 3) := by decide +kernel
theorem dX0_accepts_182 : decode cX0_accepts 182 = .ok (.iconst 1, 1) := by decide +kernel
theorem dX0_accepts_183 : decode cX0_accepts 183 = .ok (.goto 4, 3) := by decide +kernel
theorem dX0_accepts_186 : decode cX0_accepts 186 = .ok (.iconst 0, 1) := by decide +kernel
theorem dX0_accepts_187 : decode cX0_accepts 187 = .ok (.ireturn, 1) := by decide +kernel
theorem dX0_accepts_188 : decode cX0_accepts 188 = .ok (.aload_n 0, 1) := by decide +kernel
theorem dX0_accepts_189 : decode cX0_accepts 189 = .ok (.iload_n 2, 1) := by decide +kernel
theorem dX0_accepts_190 : decode cX0_accepts 190 = .ok (.invokevirtual 110, 3) := by decide +kernel
theorem dX0_accepts_193 : decode cX0_accepts 193 = .ok (.ireturn, 1) := by decide +kernel
theorem dX0_accepts_194 : decode cX0_accepts 194 = .ok (.aload_n 0, 1) := by decide +kernel
theorem dX0_accepts_195 : decode cX0_accepts 195 = .ok (.iload_n 2, 1) := by decide +kernel
theorem dX0_accepts_196 : decode cX0_accepts 196 = .ok (.invokevirtual 119, 3) := by decide +kernel
theorem dX0_accepts_199 : decode cX0_accepts 199 = .ok (.ireturn, 1) := by decide +kernel
theorem dX0_accepts_200 : decode cX0_accepts 200 = .ok (.aload_n 0, 1) := by decide +kernel
theorem dX0_accepts_201 : decode cX0_accepts 201 = .ok (.iload_n 2, 1) := by decide +kernel
theorem dX0_accepts_202 : decode cX0_accepts 202 = .ok (.invokevirtual 122, 3) := by decide +kernel
theorem dX0_accepts_205 : decode cX0_accepts 205 = .ok (.ireturn, 1) := by decide +kernel
theorem dX0_reasonAgainstRibbon_0 : decode cX0_reasonAgainstRibbon 0 = .ok (.aload_n 0, 1) := by decide +kernel
theorem dX0_reasonAgainstRibbon_1 : decode cX0_reasonAgainstRibbon 1 = .ok (.getfield 30, 3) := by decide +kernel
theorem dX0_reasonAgainstRibbon_4 : decode cX0_reasonAgainstRibbon 4 = .ok (.bipush 12, 2) := by decide +kernel
theorem dX0_reasonAgainstRibbon_6 : decode cX0_reasonAgainstRibbon 6 = .ok (.if_icmp .lt 5, 3) := by decide +kernel
theorem dX0_reasonAgainstRibbon_9 : decode cX0_reasonAgainstRibbon 9 = .ok (.iconst 1, 1) := by decide +kernel
theorem dX0_reasonAgainstRibbon_10 : decode cX0_reasonAgainstRibbon 10 = .ok (.ireturn, 1) := by decide +kernel
theorem dX0_reasonAgainstRibbon_11 : decode cX0_reasonAgainstRibbon 11 = .ok (.aload_n 0, 1) := by decide +kernel
theorem dX0_reasonAgainstRibbon_12 : decode cX0_reasonAgainstRibbon 12 = .ok (.invokevirtual 141, 3) := by decide +kernel
theorem dX0_reasonAgainstRibbon_15 : decode cX0_reasonAgainstRibbon 15 = .ok (.iconst (-1), 1) := by decide +kernel
theorem dX0_reasonAgainstRibbon_16 : decode cX0_reasonAgainstRibbon 16 = .ok (.if_icmp .ne 5, 3) := by decide +kernel
theorem dX0_reasonAgainstRibbon_19 : decode cX0_reasonAgainstRibbon 19 = .ok (.iconst 2, 1) := by decide +kernel
theorem dX0_reasonAgainstRibbon_20 : decode cX0_reasonAgainstRibbon 20 = .ok (.ireturn, 1) := by decide +kernel
theorem dX0_reasonAgainstRibbon_21 : decode cX0_reasonAgainstRibbon 21 = .ok (.aload_n 0, 1) := by decide +kernel
theorem dX0_reasonAgainstRibbon_22 : decode cX0_reasonAgainstRibbon 22 = .ok (.iload_n 1, 1) := by decide +kernel
theorem dX0_reasonAgainstRibbon_23 : decode cX0_reasonAgainstRibbon 23 = .ok (.invokevirtual 82, 3) := by decide +kernel
theorem dX0_reasonAgainstRibbon_26 : decode cX0_reasonAgainstRibbon 26 = .ok (.iconst (-1), 1) := by decide +kernel
theorem dX0_reasonAgainstRibbon_27 : decode cX0_reasonAgainstRibbon 27 = .ok (.if_icmp .eq 7, 3) := by decide +kernel
theorem dX0_reasonAgainstRibbon_30 : decode cX0_reasonAgainstRibbon 30 = .ok (.iconst 3, 1) := by decide +kernel
theorem dX0_reasonAgainstRibbon_31 : decode cX0_reasonAgainstRibbon 31 = .ok (.goto 4, 3) := by decide +kernel
theorem dX0_reasonAgainstRibbon_34 : decode cX0_reasonAgainstRibbon 34 = .ok (.iconst 0, 1) := by decide +kernel
theorem dX0_reasonAgainstRibbon_35 : decode cX0_reasonAgainstRibbon 35 = .ok (.ireturn, 1) := by decide +kernel
theorem dX0_reasonAgainstEar_0 : decode cX0_reasonAgainstEar 0 = .ok (.aload_n 0, 1) := by decide +kernel
theorem dX0_reasonAgainstEar_1 : decode cX0_reasonAgainstEar 1 = .ok (.getfield 30, 3) := by decide +kernel
theorem dX0_reasonAgainstEar_4 : decode cX0_reasonAgainstEar 4 = .ok (.bipush 12, 2) := by decide +kernel
theorem dX0_reasonAgainstEar_6 : decode cX0_reasonAgainstEar 6 = .ok (.if_icmp .lt 5, 3) := by decide +kernel
theorem dX0_reasonAgainstEar_9 : decode cX0_reasonAgainstEar 9 = .ok (.iconst 1, 1) := by decide +kernel
theorem dX0_reasonAgainstEar_10 : decode cX0_reasonAgainstEar 10 = .ok (.ireturn, 1) := by decide +kernel
theorem dX0_reasonAgainstEar_11 : decode cX0_reasonAgainstEar 11 = .ok (.aload_n 0, 1) := by decide +kernel
theorem dX0_reasonAgainstEar_12 : decode cX0_reasonAgainstEar 12 = .ok (.iload_n 1, 1) := by decide +kernel
theorem dX0_reasonAgainstEar_13 : decode cX0_reasonAgainstEar 13 = .ok (.invokevirtual 82, 3) := by decide +kernel
theorem dX0_reasonAgainstEar_16 : decode cX0_reasonAgainstEar 16 = .ok (.iconst (-1), 1) := by decide +kernel
theorem dX0_reasonAgainstEar_17 : decode cX0_reasonAgainstEar 17 = .ok (.if_icmp .eq 7, 3) := by decide +kernel
theorem dX0_reasonAgainstEar_20 : decode cX0_reasonAgainstEar 20 = .ok (.iconst 3, 1) := by decide +kernel
theorem dX0_reasonAgainstEar_21 : decode cX0_reasonAgainstEar 21 = .ok (.goto 4, 3) := by decide +kernel
theorem dX0_reasonAgainstEar_24 : decode cX0_reasonAgainstEar 24 = .ok (.iconst 0, 1) := by decide +kernel
theorem dX0_reasonAgainstEar_25 : decode cX0_reasonAgainstEar 25 = .ok (.ireturn, 1) := by decide +kernel
theorem dX0_isRibbonId_0 : decode cX0_isRibbonId 0 = .ok (.aload_n 0, 1) := by decide +kernel
theorem dX0_isRibbonId_1 : decode cX0_isRibbonId 1 = .ok (.iload_n 1, 1) := by decide +kernel
theorem dX0_isRibbonId_2 : decode cX0_isRibbonId 2 = .ok (.invokevirtual 116, 3) := by decide +kernel
theorem dX0_isRibbonId_5 : decode cX0_isRibbonId 5 = .ok (.istore_n 2, 1) := by decide +kernel
theorem dX0_isRibbonId_6 : decode cX0_isRibbonId 6 = .ok (.iload_n 2, 1) := by decide +kernel
theorem dX0_isRibbonId_7 : decode cX0_isRibbonId 7 = .ok (.iconst (-1), 1) := by decide +kernel
theorem dX0_isRibbonId_8 : decode cX0_isRibbonId 8 = .ok (.if_icmp .eq 15, 3) := by decide +kernel
theorem dX0_isRibbonId_11 : decode cX0_isRibbonId 11 = .ok (.aload_n 0, 1) := by decide +kernel
theorem dX0_isRibbonId_12 : decode cX0_isRibbonId 12 = .ok (.iload_n 2, 1) := by decide +kernel
theorem dX0_isRibbonId_13 : decode cX0_isRibbonId 13 = .ok (.invokevirtual 72, 3) := by decide +kernel
theorem dX0_isRibbonId_16 : decode cX0_isRibbonId 16 = .ok (.ifCond .eq 7, 3) := by decide +kernel
theorem dX0_isRibbonId_19 : decode cX0_isRibbonId 19 = .ok (.iconst 1, 1) := by decide +kernel
theorem dX0_isRibbonId_20 : decode cX0_isRibbonId 20 = .ok (.goto 4, 3) := by decide +kernel
theorem dX0_isRibbonId_23 : decode cX0_isRibbonId 23 = .ok (.iconst 0, 1) := by decide +kernel
theorem dX0_isRibbonId_24 : decode cX0_isRibbonId 24 = .ok (.ireturn, 1) := by decide +kernel
theorem dX0_reasonAgainstMove_0 : decode cX0_reasonAgainstMove 0 = .ok (.aload_n 0, 1) := by decide +kernel
theorem dX0_reasonAgainstMove_1 : decode cX0_reasonAgainstMove 1 = .ok (.iload_n 1, 1) := by decide +kernel
theorem dX0_reasonAgainstMove_2 : decode cX0_reasonAgainstMove 2 = .ok (.invokevirtual 144, 3) := by decide +kernel
theorem dX0_reasonAgainstMove_5 : decode cX0_reasonAgainstMove 5 = .ok (.ifCond .ne 5, 3) := by decide +kernel
theorem dX0_reasonAgainstMove_8 : decode cX0_reasonAgainstMove 8 = .ok (.iconst 4, 1) := by decide +kernel
theorem dX0_reasonAgainstMove_9 : decode cX0_reasonAgainstMove 9 = .ok (.ireturn, 1) := by decide +kernel
theorem dX0_reasonAgainstMove_10 : decode cX0_reasonAgainstMove 10 = .ok (.aload_n 0, 1) := by decide +kernel
theorem dX0_reasonAgainstMove_11 : decode cX0_reasonAgainstMove 11 = .ok (.iload_n 2, 1) := by decide +kernel
theorem dX0_reasonAgainstMove_12 : decode cX0_reasonAgainstMove 12 = .ok (.invokevirtual 82, 3) := by decide +kernel
theorem dX0_reasonAgainstMove_15 : decode cX0_reasonAgainstMove 15 = .ok (.iconst (-1), 1) := by decide +kernel
theorem dX0_reasonAgainstMove_16 : decode cX0_reasonAgainstMove 16 = .ok (.if_icmp .eq 7, 3) := by decide +kernel
theorem dX0_reasonAgainstMove_19 : decode cX0_reasonAgainstMove 19 = .ok (.iconst 3, 1) := by decide +kernel
theorem dX0_reasonAgainstMove_20 : decode cX0_reasonAgainstMove 20 = .ok (.goto 4, 3) := by decide +kernel
theorem dX0_reasonAgainstMove_23 : decode cX0_reasonAgainstMove 23 = .ok (.iconst 0, 1) := by decide +kernel
theorem dX0_reasonAgainstMove_24 : decode cX0_reasonAgainstMove 24 = .ok (.ireturn, 1) := by decide +kernel
theorem dX0_reasonAgainstSwap_0 : decode cX0_reasonAgainstSwap 0 = .ok (.aload_n 0, 1) := by decide +kernel
theorem dX0_reasonAgainstSwap_1 : decode cX0_reasonAgainstSwap 1 = .ok (.iload_n 1, 1) := by decide +kernel
theorem dX0_reasonAgainstSwap_2 : decode cX0_reasonAgainstSwap 2 = .ok (.invokevirtual 144, 3) := by decide +kernel
theorem dX0_reasonAgainstSwap_5 : decode cX0_reasonAgainstSwap 5 = .ok (.ifCond .eq 11, 3) := by decide +kernel
theorem dX0_reasonAgainstSwap_8 : decode cX0_reasonAgainstSwap 8 = .ok (.aload_n 0, 1) := by decide +kernel
theorem dX0_reasonAgainstSwap_9 : decode cX0_reasonAgainstSwap 9 = .ok (.iload_n 2, 1) := by decide +kernel
theorem dX0_reasonAgainstSwap_10 : decode cX0_reasonAgainstSwap 10 = .ok (.invokevirtual 144, 3) := by decide +kernel
theorem dX0_reasonAgainstSwap_13 : decode cX0_reasonAgainstSwap 13 = .ok (.ifCond .ne 5, 3) := by decide +kernel
theorem dX0_reasonAgainstSwap_16 : decode cX0_reasonAgainstSwap 16 = .ok (.iconst 4, 1) := by decide +kernel
theorem dX0_reasonAgainstSwap_17 : decode cX0_reasonAgainstSwap 17 = .ok (.ireturn, 1) := by decide +kernel
theorem dX0_reasonAgainstSwap_18 : decode cX0_reasonAgainstSwap 18 = .ok (.iload_n 1, 1) := by decide +kernel
theorem dX0_reasonAgainstSwap_19 : decode cX0_reasonAgainstSwap 19 = .ok (.iload_n 2, 1) := by decide +kernel
theorem dX0_reasonAgainstSwap_20 : decode cX0_reasonAgainstSwap 20 = .ok (.if_icmp .ne 7, 3) := by decide +kernel
theorem dX0_reasonAgainstSwap_23 : decode cX0_reasonAgainstSwap 23 = .ok (.iconst 5, 1) := by decide +kernel
theorem dX0_reasonAgainstSwap_24 : decode cX0_reasonAgainstSwap 24 = .ok (.goto 4, 3) := by decide +kernel
theorem dX0_reasonAgainstSwap_27 : decode cX0_reasonAgainstSwap 27 = .ok (.iconst 0, 1) := by decide +kernel
theorem dX0_reasonAgainstSwap_28 : decode cX0_reasonAgainstSwap 28 = .ok (.ireturn, 1) := by decide +kernel
theorem dX0_reasonAgainstStart_0 : decode cX0_reasonAgainstStart 0 = .ok (.aload_n 0, 1) := by decide +kernel
theorem dX0_reasonAgainstStart_1 : decode cX0_reasonAgainstStart 1 = .ok (.getfield 34, 3) := by decide +kernel
theorem dX0_reasonAgainstStart_4 : decode cX0_reasonAgainstStart 4 = .ok (.bipush 8, 2) := by decide +kernel
theorem dX0_reasonAgainstStart_6 : decode cX0_reasonAgainstStart 6 = .ok (.if_icmp .lt 6, 3) := by decide +kernel
theorem dX0_reasonAgainstStart_9 : decode cX0_reasonAgainstStart 9 = .ok (.bipush 6, 2) := by decide +kernel
theorem dX0_reasonAgainstStart_11 : decode cX0_reasonAgainstStart 11 = .ok (.ireturn, 1) := by decide +kernel
theorem dX0_reasonAgainstStart_12 : decode cX0_reasonAgainstStart 12 = .ok (.aload_n 0, 1) := by decide +kernel
theorem dX0_reasonAgainstStart_13 : decode cX0_reasonAgainstStart 13 = .ok (.getfield 27, 3) := by decide +kernel
theorem dX0_reasonAgainstStart_16 : decode cX0_reasonAgainstStart 16 = .ok (.aload_n 0, 1) := by decide +kernel
theorem dX0_reasonAgainstStart_17 : decode cX0_reasonAgainstStart 17 = .ok (.iload_n 1, 1) := by decide +kernel
theorem dX0_reasonAgainstStart_18 : decode cX0_reasonAgainstStart 18 = .ok (.invokevirtual 147, 3) := by decide +kernel
theorem dX0_reasonAgainstStart_21 : decode cX0_reasonAgainstStart 21 = .ok (.iaload, 1) := by decide +kernel
theorem dX0_reasonAgainstStart_22 : decode cX0_reasonAgainstStart 22 = .ok (.iload_n 1, 1) := by decide +kernel
theorem dX0_reasonAgainstStart_23 : decode cX0_reasonAgainstStart 23 = .ok (.if_icmp .ne 8, 3) := by decide +kernel
theorem dX0_reasonAgainstStart_26 : decode cX0_reasonAgainstStart 26 = .ok (.bipush 7, 2) := by decide +kernel
theorem dX0_reasonAgainstStart_28 : decode cX0_reasonAgainstStart 28 = .ok (.goto 4, 3) := by decide +kernel
theorem dX0_reasonAgainstStart_31 : decode cX0_reasonAgainstStart 31 = .ok (.iconst 0, 1) := by decide +kernel
theorem dX0_reasonAgainstStart_32 : decode cX0_reasonAgainstStart 32 = .ok (.ireturn, 1) := by decide +kernel
theorem dX0_reasonAgainst_0 : decode cX0_reasonAgainst 0 = .ok (.iload_n 1, 1) := by decide +kernel
theorem dX0_reasonAgainst_1 : decode cX0_reasonAgainst 1 = .ok (.tableswitch 186 66 86 #[166, 125, 186, 105, 186, 186, 186, 186, 186, 186, 186, 111, 186, 186, 186, 186, 99, 118, 146, 186, 131], 99) := by decide +kernel
theorem dX0_reasonAgainst_100 : decode cX0_reasonAgainst 100 = .ok (.aload_n 0, 1) := by decide +kernel
theorem dX0_reasonAgainst_101 : decode cX0_reasonAgainst 101 = .ok (.iload_n 2, 1) := by decide +kernel
theorem dX0_reasonAgainst_102 : decode cX0_reasonAgainst 102 = .ok (.invokevirtual 125, 3) := by decide +kernel
theorem dX0_reasonAgainst_105 : decode cX0_reasonAgainst 105 = .ok (.ireturn, 1) := by decide +kernel
theorem dX0_reasonAgainst_106 : decode cX0_reasonAgainst 106 = .ok (.aload_n 0, 1) := by decide +kernel
theorem dX0_reasonAgainst_107 : decode cX0_reasonAgainst 107 = .ok (.iload_n 2, 1) := by decide +kernel
theorem dX0_reasonAgainst_108 : decode cX0_reasonAgainst 108 = .ok (.invokevirtual 128, 3) := by decide +kernel
theorem dX0_reasonAgainst_111 : decode cX0_reasonAgainst 111 = .ok (.ireturn, 1) := by decide +kernel
theorem dX0_reasonAgainst_112 : decode cX0_reasonAgainst 112 = .ok (.aload_n 0, 1) := by decide +kernel
theorem dX0_reasonAgainst_113 : decode cX0_reasonAgainst 113 = .ok (.iload_n 2, 1) := by decide +kernel
theorem dX0_reasonAgainst_114 : decode cX0_reasonAgainst 114 = .ok (.iload_n 3, 1) := by decide +kernel
theorem dX0_reasonAgainst_115 : decode cX0_reasonAgainst 115 = .ok (.invokevirtual 131, 3) := by decide +kernel
theorem dX0_reasonAgainst_118 : decode cX0_reasonAgainst 118 = .ok (.ireturn, 1) := by decide +kernel
theorem dX0_reasonAgainst_119 : decode cX0_reasonAgainst 119 = .ok (.aload_n 0, 1) := by decide +kernel
theorem dX0_reasonAgainst_120 : decode cX0_reasonAgainst 120 = .ok (.iload_n 2, 1) := by decide +kernel
theorem dX0_reasonAgainst_121 : decode cX0_reasonAgainst 121 = .ok (.iload_n 3, 1) := by decide +kernel
theorem dX0_reasonAgainst_122 : decode cX0_reasonAgainst 122 = .ok (.invokevirtual 135, 3) := by decide +kernel
theorem dX0_reasonAgainst_125 : decode cX0_reasonAgainst 125 = .ok (.ireturn, 1) := by decide +kernel
theorem dX0_reasonAgainst_126 : decode cX0_reasonAgainst 126 = .ok (.aload_n 0, 1) := by decide +kernel
theorem dX0_reasonAgainst_127 : decode cX0_reasonAgainst 127 = .ok (.iload_n 2, 1) := by decide +kernel
theorem dX0_reasonAgainst_128 : decode cX0_reasonAgainst 128 = .ok (.invokevirtual 138, 3) := by decide +kernel
theorem dX0_reasonAgainst_131 : decode cX0_reasonAgainst 131 = .ok (.ireturn, 1) := by decide +kernel
theorem dX0_reasonAgainst_132 : decode cX0_reasonAgainst 132 = .ok (.aload_n 0, 1) := by decide +kernel
theorem dX0_reasonAgainst_133 : decode cX0_reasonAgainst 133 = .ok (.getfield 34, 3) := by decide +kernel
theorem dX0_reasonAgainst_136 : decode cX0_reasonAgainst 136 = .ok (.iconst 1, 1) := by decide +kernel
theorem dX0_reasonAgainst_137 : decode cX0_reasonAgainst 137 = .ok (.if_icmp .ne 8, 3) := by decide +kernel
theorem dX0_reasonAgainst_140 : decode cX0_reasonAgainst 140 = .ok (.bipush 8, 2) := by decide +kernel
theorem dX0_reasonAgainst_142 : decode cX0_reasonAgainst 142 = .ok (.goto 4, 3) := by decide +kernel
theorem dX0_reasonAgainst_145 : decode cX0_reasonAgainst 145 = .ok (.iconst 0, 1) := by decide +kernel
theorem dX0_reasonAgainst_146 : decode cX0_reasonAgainst 146 = .ok (.ireturn, 1) := by decide +kernel
theorem dX0_reasonAgainst_147 : decode cX0_reasonAgainst 147 = .ok (.aload_n 0, 1) := by decide +kernel
theorem dX0_reasonAgainst_148 : decode cX0_reasonAgainst 148 = .ok (.aload_n 0, 1) := by decide +kernel
theorem dX0_reasonAgainst_149 : decode cX0_reasonAgainst 149 = .ok (.getfield 37, 3) := by decide +kernel
theorem dX0_reasonAgainst_152 : decode cX0_reasonAgainst 152 = .ok (.iload_n 2, 1) := by decide +kernel
theorem dX0_reasonAgainst_153 : decode cX0_reasonAgainst 153 = .ok (.iadd, 1) := by decide +kernel
theorem dX0_reasonAgainst_154 : decode cX0_reasonAgainst 154 = .ok (.invokevirtual 110, 3) := by decide +kernel
theorem dX0_reasonAgainst_157 : decode cX0_reasonAgainst 157 = .ok (.ifCond .eq 7, 3) := by decide +kernel
theorem dX0_reasonAgainst_160 : decode cX0_reasonAgainst 160 = .ok (.iconst 0, 1) := by decide +kernel
theorem dX0_reasonAgainst_161 : decode cX0_reasonAgainst 161 = .ok (.goto 5, 3) := by decide +kernel
theorem dX0_reasonAgainst_164 : decode cX0_reasonAgainst 164 = .ok (.bipush 9, 2) := by decide +kernel
theorem dX0_reasonAgainst_166 : decode cX0_reasonAgainst 166 = .ok (.ireturn, 1) := by decide +kernel
theorem dX0_reasonAgainst_167 : decode cX0_reasonAgainst 167 = .ok (.aload_n 0, 1) := by decide +kernel
theorem dX0_reasonAgainst_168 : decode cX0_reasonAgainst 168 = .ok (.aload_n 0, 1) := by decide +kernel
theorem dX0_reasonAgainst_169 : decode cX0_reasonAgainst 169 = .ok (.getfield 37, 3) := by decide +kernel
theorem dX0_reasonAgainst_172 : decode cX0_reasonAgainst 172 = .ok (.iload_n 2, 1) := by decide +kernel
theorem dX0_reasonAgainst_173 : decode cX0_reasonAgainst 173 = .ok (.isub, 1) := by decide +kernel
theorem dX0_reasonAgainst_174 : decode cX0_reasonAgainst 174 = .ok (.invokevirtual 110, 3) := by decide +kernel
theorem dX0_reasonAgainst_177 : decode cX0_reasonAgainst 177 = .ok (.ifCond .eq 7, 3) := by decide +kernel
theorem dX0_reasonAgainst_180 : decode cX0_reasonAgainst 180 = .ok (.iconst 0, 1) := by decide +kernel
theorem dX0_reasonAgainst_181 : decode cX0_reasonAgainst 181 = .ok (.goto 5, 3) := by decide +kernel
theorem dX0_reasonAgainst_184 : decode cX0_reasonAgainst 184 = .ok (.bipush 9, 2) := by decide +kernel
theorem dX0_reasonAgainst_186 : decode cX0_reasonAgainst 186 = .ok (.ireturn, 1) := by decide +kernel
theorem dX0_reasonAgainst_187 : decode cX0_reasonAgainst 187 = .ok (.iconst 0, 1) := by decide +kernel
theorem dX0_reasonAgainst_188 : decode cX0_reasonAgainst 188 = .ok (.ireturn, 1) := by decide +kernel
theorem dX0_idOnPage_0 : decode cX0_idOnPage 0 = .ok (.aload_n 0, 1) := by decide +kernel
theorem dX0_idOnPage_1 : decode cX0_idOnPage 1 = .ok (.iload_n 1, 1) := by decide +kernel
theorem dX0_idOnPage_2 : decode cX0_idOnPage 2 = .ok (.invokevirtual 82, 3) := by decide +kernel
theorem dX0_idOnPage_5 : decode cX0_idOnPage 5 = .ok (.istore_n 2, 1) := by decide +kernel
theorem dX0_idOnPage_6 : decode cX0_idOnPage 6 = .ok (.iload_n 2, 1) := by decide +kernel
theorem dX0_idOnPage_7 : decode cX0_idOnPage 7 = .ok (.iconst (-1), 1) := by decide +kernel
theorem dX0_idOnPage_8 : decode cX0_idOnPage 8 = .ok (.if_icmp .ne 7, 3) := by decide +kernel
theorem dX0_idOnPage_11 : decode cX0_idOnPage 11 = .ok (.iconst (-1), 1) := by decide +kernel
theorem dX0_idOnPage_12 : decode cX0_idOnPage 12 = .ok (.goto 9, 3) := by decide +kernel
theorem dX0_idOnPage_15 : decode cX0_idOnPage 15 = .ok (.aload_n 0, 1) := by decide +kernel
theorem dX0_idOnPage_16 : decode cX0_idOnPage 16 = .ok (.getfield 9, 3) := by decide +kernel
theorem dX0_idOnPage_19 : decode cX0_idOnPage 19 = .ok (.iload_n 2, 1) := by decide +kernel
theorem dX0_idOnPage_20 : decode cX0_idOnPage 20 = .ok (.iaload, 1) := by decide +kernel
theorem dX0_idOnPage_21 : decode cX0_idOnPage 21 = .ok (.ireturn, 1) := by decide +kernel
theorem dX0_detailOf_0 : decode cX0_detailOf 0 = .ok (.iload_n 1, 1) := by decide +kernel
theorem dX0_detailOf_1 : decode cX0_detailOf 1 = .ok (.tableswitch 104 1 9 #[51, 54, 59, 76, 91, 56, 93, 104, 99], 51) := by decide +kernel
theorem dX0_detailOf_52 : decode cX0_detailOf 52 = .ok (.bipush 12, 2) := by decide +kernel
theorem dX0_detailOf_54 : decode cX0_detailOf 54 = .ok (.ireturn, 1) := by decide +kernel
theorem dX0_detailOf_55 : decode cX0_detailOf 55 = .ok (.iconst 5, 1) := by decide +kernel
theorem dX0_detailOf_56 : decode cX0_detailOf 56 = .ok (.ireturn, 1) := by decide +kernel
theorem dX0_detailOf_57 : decode cX0_detailOf 57 = .ok (.bipush 8, 2) := by decide +kernel
theorem dX0_detailOf_59 : decode cX0_detailOf 59 = .ok (.ireturn, 1) := by decide +kernel
theorem dX0_detailOf_60 : decode cX0_detailOf 60 = .ok (.aload_n 0, 1) := by decide +kernel
theorem dX0_detailOf_61 : decode cX0_detailOf 61 = .ok (.iload_n 2, 1) := by decide +kernel
theorem dX0_detailOf_62 : decode cX0_detailOf 62 = .ok (.bipush 77, 2) := by decide +kernel
theorem dX0_detailOf_64 : decode cX0_detailOf 64 = .ok (.if_icmp .ne 8, 3) := by decide +kernel
theorem dX0_detailOf_67 : decode cX0_detailOf 67 = .ok (.iload 4, 2) := by decide +kernel
theorem dX0_detailOf_69 : decode cX0_detailOf 69 = .ok (.goto 4, 3) := by decide +kernel
theorem dX0_detailOf_72 : decode cX0_detailOf 72 = .ok (.iload_n 3, 1) := by decide +kernel
theorem dX0_detailOf_73 : decode cX0_detailOf 73 = .ok (.invokevirtual 150, 3) := by decide +kernel
theorem dX0_detailOf_76 : decode cX0_detailOf 76 = .ok (.ireturn, 1) := by decide +kernel
theorem dX0_detailOf_77 : decode cX0_detailOf 77 = .ok (.aload_n 0, 1) := by decide +kernel
theorem dX0_detailOf_78 : decode cX0_detailOf 78 = .ok (.iload_n 3, 1) := by decide +kernel
theorem dX0_detailOf_79 : decode cX0_detailOf 79 = .ok (.invokevirtual 144, 3) := by decide +kernel
theorem dX0_detailOf_82 : decode cX0_detailOf 82 = .ok (.ifCond .eq 8, 3) := by decide +kernel
theorem dX0_detailOf_85 : decode cX0_detailOf 85 = .ok (.iload 4, 2) := by decide +kernel
theorem dX0_detailOf_87 : decode cX0_detailOf 87 = .ok (.goto 4, 3) := by decide +kernel
theorem dX0_detailOf_90 : decode cX0_detailOf 90 = .ok (.iload_n 3, 1) := by decide +kernel
theorem dX0_detailOf_91 : decode cX0_detailOf 91 = .ok (.ireturn, 1) := by decide +kernel
theorem dX0_detailOf_92 : decode cX0_detailOf 92 = .ok (.iload_n 3, 1) := by decide +kernel
theorem dX0_detailOf_93 : decode cX0_detailOf 93 = .ok (.ireturn, 1) := by decide +kernel
theorem dX0_detailOf_94 : decode cX0_detailOf 94 = .ok (.aload_n 0, 1) := by decide +kernel
theorem dX0_detailOf_95 : decode cX0_detailOf 95 = .ok (.iload_n 3, 1) := by decide +kernel
theorem dX0_detailOf_96 : decode cX0_detailOf 96 = .ok (.invokevirtual 147, 3) := by decide +kernel
theorem dX0_detailOf_99 : decode cX0_detailOf 99 = .ok (.ireturn, 1) := by decide +kernel
theorem dX0_detailOf_100 : decode cX0_detailOf 100 = .ok (.aload_n 0, 1) := by decide +kernel
theorem dX0_detailOf_101 : decode cX0_detailOf 101 = .ok (.getfield 37, 3) := by decide +kernel
theorem dX0_detailOf_104 : decode cX0_detailOf 104 = .ok (.ireturn, 1) := by decide +kernel
theorem dX0_detailOf_105 : decode cX0_detailOf 105 = .ok (.iconst 0, 1) := by decide +kernel
theorem dX0_detailOf_106 : decode cX0_detailOf 106 = .ok (.ireturn, 1) := by decide +kernel
theorem dX0_copySlot_0 : decode cX0_copySlot 0 = .ok (.aload_n 0, 1) := by decide +kernel
theorem dX0_copySlot_1 : decode cX0_copySlot 1 = .ok (.getfield 9, 3) := by decide +kernel
theorem dX0_copySlot_4 : decode cX0_copySlot 4 = .ok (.iload_n 2, 1) := by decide +kernel
theorem dX0_copySlot_5 : decode cX0_copySlot 5 = .ok (.aload_n 0, 1) := by decide +kernel
theorem dX0_copySlot_6 : decode cX0_copySlot 6 = .ok (.getfield 9, 3) := by decide +kernel
theorem dX0_copySlot_9 : decode cX0_copySlot 9 = .ok (.iload_n 1, 1) := by decide +kernel
theorem dX0_copySlot_10 : decode cX0_copySlot 10 = .ok (.iaload, 1) := by decide +kernel
theorem dX0_copySlot_11 : decode cX0_copySlot 11 = .ok (.iastore, 1) := by decide +kernel
theorem dX0_copySlot_12 : decode cX0_copySlot 12 = .ok (.aload_n 0, 1) := by decide +kernel
theorem dX0_copySlot_13 : decode cX0_copySlot 13 = .ok (.getfield 15, 3) := by decide +kernel
theorem dX0_copySlot_16 : decode cX0_copySlot 16 = .ok (.iload_n 2, 1) := by decide +kernel
theorem dX0_copySlot_17 : decode cX0_copySlot 17 = .ok (.aload_n 0, 1) := by decide +kernel
theorem dX0_copySlot_18 : decode cX0_copySlot 18 = .ok (.getfield 15, 3) := by decide +kernel
theorem dX0_copySlot_21 : decode cX0_copySlot 21 = .ok (.iload_n 1, 1) := by decide +kernel
theorem dX0_copySlot_22 : decode cX0_copySlot 22 = .ok (.iaload, 1) := by decide +kernel
theorem dX0_copySlot_23 : decode cX0_copySlot 23 = .ok (.iastore, 1) := by decide +kernel
theorem dX0_copySlot_24 : decode cX0_copySlot 24 = .ok (.aload_n 0, 1) := by decide +kernel
theorem dX0_copySlot_25 : decode cX0_copySlot 25 = .ok (.getfield 18, 3) := by decide +kernel
theorem dX0_copySlot_28 : decode cX0_copySlot 28 = .ok (.iload_n 2, 1) := by decide +kernel
theorem dX0_copySlot_29 : decode cX0_copySlot 29 = .ok (.aload_n 0, 1) := by decide +kernel
theorem dX0_copySlot_30 : decode cX0_copySlot 30 = .ok (.getfield 18, 3) := by decide +kernel
theorem dX0_copySlot_33 : decode cX0_copySlot 33 = .ok (.iload_n 1, 1) := by decide +kernel
theorem dX0_copySlot_34 : decode cX0_copySlot 34 = .ok (.iaload, 1) := by decide +kernel
theorem dX0_copySlot_35 : decode cX0_copySlot 35 = .ok (.iastore, 1) := by decide +kernel
theorem dX0_copySlot_36 : decode cX0_copySlot 36 = .ok (.aload_n 0, 1) := by decide +kernel
theorem dX0_copySlot_37 : decode cX0_copySlot 37 = .ok (.getfield 21, 3) := by decide +kernel
theorem dX0_copySlot_40 : decode cX0_copySlot 40 = .ok (.iload_n 2, 1) := by decide +kernel
theorem dX0_copySlot_41 : decode cX0_copySlot 41 = .ok (.aload_n 0, 1) := by decide +kernel
theorem dX0_copySlot_42 : decode cX0_copySlot 42 = .ok (.getfield 21, 3) := by decide +kernel
theorem dX0_copySlot_45 : decode cX0_copySlot 45 = .ok (.iload_n 1, 1) := by decide +kernel
theorem dX0_copySlot_46 : decode cX0_copySlot 46 = .ok (.iaload, 1) := by decide +kernel
theorem dX0_copySlot_47 : decode cX0_copySlot 47 = .ok (.iastore, 1) := by decide +kernel
theorem dX0_copySlot_48 : decode cX0_copySlot 48 = .ok (.aload_n 0, 1) := by decide +kernel
theorem dX0_copySlot_49 : decode cX0_copySlot 49 = .ok (.getfield 24, 3) := by decide +kernel
theorem dX0_copySlot_52 : decode cX0_copySlot 52 = .ok (.iload_n 2, 1) := by decide +kernel
theorem dX0_copySlot_53 : decode cX0_copySlot 53 = .ok (.aload_n 0, 1) := by decide +kernel
theorem dX0_copySlot_54 : decode cX0_copySlot 54 = .ok (.getfield 24, 3) := by decide +kernel
theorem dX0_copySlot_57 : decode cX0_copySlot 57 = .ok (.iload_n 1, 1) := by decide +kernel
theorem dX0_copySlot_58 : decode cX0_copySlot 58 = .ok (.iaload, 1) := by decide +kernel
theorem dX0_copySlot_59 : decode cX0_copySlot 59 = .ok (.iastore, 1) := by decide +kernel
theorem dX0_copySlot_60 : decode cX0_copySlot 60 = .ok (.return_, 1) := by decide +kernel
theorem dX0_insert_0 : decode cX0_insert 0 = .ok (.aload_n 0, 1) := by decide +kernel
theorem dX0_insert_1 : decode cX0_insert 1 = .ok (.getfield 30, 3) := by decide +kernel
theorem dX0_insert_4 : decode cX0_insert 4 = .ok (.bipush 12, 2) := by decide +kernel
theorem dX0_insert_6 : decode cX0_insert 6 = .ok (.if_icmp .lt 4, 3) := by decide +kernel
theorem dX0_insert_9 : decode cX0_insert 9 = .ok (.return_, 1) := by decide +kernel
theorem dX0_insert_10 : decode cX0_insert 10 = .ok (.aload_n 0, 1) := by decide +kernel
theorem dX0_insert_11 : decode cX0_insert 11 = .ok (.getfield 30, 3) := by decide +kernel
theorem dX0_insert_14 : decode cX0_insert 14 = .ok (.istore 6, 2) := by decide +kernel
theorem dX0_insert_16 : decode cX0_insert 16 = .ok (.iload 6, 2) := by decide +kernel
theorem dX0_insert_18 : decode cX0_insert 18 = .ok (.ifCond .le 32, 3) := by decide +kernel
theorem dX0_insert_21 : decode cX0_insert 21 = .ok (.aload_n 0, 1) := by decide +kernel
theorem dX0_insert_22 : decode cX0_insert 22 = .ok (.getfield 15, 3) := by decide +kernel
theorem dX0_insert_25 : decode cX0_insert 25 = .ok (.iload 6, 2) := by decide +kernel
theorem dX0_insert_27 : decode cX0_insert 27 = .ok (.iconst 1, 1) := by decide +kernel
theorem dX0_insert_28 : decode cX0_insert 28 = .ok (.isub, 1) := by decide +kernel
theorem dX0_insert_29 : decode cX0_insert 29 = .ok (.iaload, 1) := by decide +kernel
theorem dX0_insert_30 : decode cX0_insert 30 = .ok (.iload_n 2, 1) := by decide +kernel
theorem dX0_insert_31 : decode cX0_insert 31 = .ok (.if_icmp .le 19, 3) := by decide +kernel
theorem dX0_insert_34 : decode cX0_insert 34 = .ok (.aload_n 0, 1) := by decide +kernel
theorem dX0_insert_35 : decode cX0_insert 35 = .ok (.iload 6, 2) := by decide +kernel
theorem dX0_insert_37 : decode cX0_insert 37 = .ok (.iconst 1, 1) := by decide +kernel
theorem dX0_insert_38 : decode cX0_insert 38 = .ok (.isub, 1) := by decide +kernel
theorem dX0_insert_39 : decode cX0_insert 39 = .ok (.iload 6, 2) := by decide +kernel
theorem dX0_insert_41 : decode cX0_insert 41 = .ok (.invokevirtual 184, 3) := by decide +kernel
theorem dX0_insert_44 : decode cX0_insert 44 = .ok (.iinc 6 (-1), 3) := by decide +kernel
theorem dX0_insert_47 : decode cX0_insert 47 = .ok (.goto (-31), 3) := by decide +kernel
theorem dX0_insert_50 : decode cX0_insert 50 = .ok (.aload_n 0, 1) := by decide +kernel
theorem dX0_insert_51 : decode cX0_insert 51 = .ok (.getfield 9, 3) := by decide +kernel
theorem dX0_insert_54 : decode cX0_insert 54 = .ok (.iload 6, 2) := by decide +kernel
theorem dX0_insert_56 : decode cX0_insert 56 = .ok (.iload_n 1, 1) := by decide +kernel
theorem dX0_insert_57 : decode cX0_insert 57 = .ok (.iastore, 1) := by decide +kernel
theorem dX0_insert_58 : decode cX0_insert 58 = .ok (.aload_n 0, 1) := by decide +kernel
theorem dX0_insert_59 : decode cX0_insert 59 = .ok (.getfield 15, 3) := by decide +kernel
theorem dX0_insert_62 : decode cX0_insert 62 = .ok (.iload 6, 2) := by decide +kernel
theorem dX0_insert_64 : decode cX0_insert 64 = .ok (.iload_n 2, 1) := by decide +kernel
theorem dX0_insert_65 : decode cX0_insert 65 = .ok (.iastore, 1) := by decide +kernel
theorem dX0_insert_66 : decode cX0_insert 66 = .ok (.aload_n 0, 1) := by decide +kernel
theorem dX0_insert_67 : decode cX0_insert 67 = .ok (.getfield 18, 3) := by decide +kernel
theorem dX0_insert_70 : decode cX0_insert 70 = .ok (.iload 6, 2) := by decide +kernel
theorem dX0_insert_72 : decode cX0_insert 72 = .ok (.iload_n 3, 1) := by decide +kernel
theorem dX0_insert_73 : decode cX0_insert 73 = .ok (.iastore, 1) := by decide +kernel
theorem dX0_insert_74 : decode cX0_insert 74 = .ok (.aload_n 0, 1) := by decide +kernel
theorem dX0_insert_75 : decode cX0_insert 75 = .ok (.getfield 21, 3) := by decide +kernel
theorem dX0_insert_78 : decode cX0_insert 78 = .ok (.iload 6, 2) := by decide +kernel
theorem dX0_insert_80 : decode cX0_insert 80 = .ok (.iload 4, 2) := by decide +kernel
theorem dX0_insert_82 : decode cX0_insert 82 = .ok (.iastore, 1) := by decide +kernel
theorem dX0_insert_83 : decode cX0_insert 83 = .ok (.aload_n 0, 1) := by decide +kernel
theorem dX0_insert_84 : decode cX0_insert 84 = .ok (.getfield 24, 3) := by decide +kernel
theorem dX0_insert_87 : decode cX0_insert 87 = .ok (.iload 6, 2) := by decide +kernel
theorem dX0_insert_89 : decode cX0_insert 89 = .ok (.iload 5, 2) := by decide +kernel
theorem dX0_insert_91 : decode cX0_insert 91 = .ok (.iastore, 1) := by decide +kernel
theorem dX0_insert_92 : decode cX0_insert 92 = .ok (.aload_n 0, 1) := by decide +kernel
theorem dX0_insert_93 : decode cX0_insert 93 = .ok (.dup, 1) := by decide +kernel
theorem dX0_insert_94 : decode cX0_insert 94 = .ok (.getfield 30, 3) := by decide +kernel
theorem dX0_insert_97 : decode cX0_insert 97 = .ok (.iconst 1, 1) := by decide +kernel
theorem dX0_insert_98 : decode cX0_insert 98 = .ok (.iadd, 1) := by decide +kernel
theorem dX0_insert_99 : decode cX0_insert 99 = .ok (.putfield 30, 3) := by decide +kernel
theorem dX0_insert_102 : decode cX0_insert 102 = .ok (.return_, 1) := by decide +kernel
theorem dX0_add_0 : decode cX0_add 0 = .ok (.aload_n 0, 1) := by decide +kernel
theorem dX0_add_1 : decode cX0_add 1 = .ok (.getfield 40, 3) := by decide +kernel
theorem dX0_add_4 : decode cX0_add 4 = .ok (.istore 4, 2) := by decide +kernel
theorem dX0_add_6 : decode cX0_add 6 = .ok (.aload_n 0, 1) := by decide +kernel
theorem dX0_add_7 : decode cX0_add 7 = .ok (.dup, 1) := by decide +kernel
theorem dX0_add_8 : decode cX0_add 8 = .ok (.getfield 40, 3) := by decide +kernel
theorem dX0_add_11 : decode cX0_add 11 = .ok (.iconst 1, 1) := by decide +kernel
theorem dX0_add_12 : decode cX0_add 12 = .ok (.iadd, 1) := by decide +kernel
theorem dX0_add_13 : decode cX0_add 13 = .ok (.putfield 40, 3) := by decide +kernel
theorem dX0_add_16 : decode cX0_add 16 = .ok (.aload_n 0, 1) := by decide +kernel
theorem dX0_add_17 : decode cX0_add 17 = .ok (.iload 4, 2) := by decide +kernel
theorem dX0_add_19 : decode cX0_add 19 = .ok (.iload_n 1, 1) := by decide +kernel
theorem dX0_add_20 : decode cX0_add 20 = .ok (.iload_n 2, 1) := by decide +kernel
theorem dX0_add_21 : decode cX0_add 21 = .ok (.iconst 0, 1) := by decide +kernel
theorem dX0_add_22 : decode cX0_add 22 = .ok (.iload_n 3, 1) := by decide +kernel
theorem dX0_add_23 : decode cX0_add 23 = .ok (.invokevirtual 176, 3) := by decide +kernel
theorem dX0_add_26 : decode cX0_add 26 = .ok (.iload 4, 2) := by decide +kernel
theorem dX0_add_28 : decode cX0_add 28 = .ok (.ireturn, 1) := by decide +kernel
theorem dX0_takeOut_0 : decode cX0_takeOut 0 = .ok (.iload_n 1, 1) := by decide +kernel
theorem dX0_takeOut_1 : decode cX0_takeOut 1 = .ok (.iconst 1, 1) := by decide +kernel
theorem dX0_takeOut_2 : decode cX0_takeOut 2 = .ok (.iadd, 1) := by decide +kernel
theorem dX0_takeOut_3 : decode cX0_takeOut 3 = .ok (.istore_n 2, 1) := by decide +kernel
theorem dX0_takeOut_4 : decode cX0_takeOut 4 = .ok (.iload_n 2, 1) := by decide +kernel
theorem dX0_takeOut_5 : decode cX0_takeOut 5 = .ok (.aload_n 0, 1) := by decide +kernel
theorem dX0_takeOut_6 : decode cX0_takeOut 6 = .ok (.getfield 30, 3) := by decide +kernel
theorem dX0_takeOut_9 : decode cX0_takeOut 9 = .ok (.if_icmp .ge 17, 3) := by decide +kernel
theorem dX0_takeOut_12 : decode cX0_takeOut 12 = .ok (.aload_n 0, 1) := by decide +kernel
theorem dX0_takeOut_13 : decode cX0_takeOut 13 = .ok (.iload_n 2, 1) := by decide +kernel
theorem dX0_takeOut_14 : decode cX0_takeOut 14 = .ok (.iload_n 2, 1) := by decide +kernel
theorem dX0_takeOut_15 : decode cX0_takeOut 15 = .ok (.iconst 1, 1) := by decide +kernel
theorem dX0_takeOut_16 : decode cX0_takeOut 16 = .ok (.isub, 1) := by decide +kernel
theorem dX0_takeOut_17 : decode cX0_takeOut 17 = .ok (.invokevirtual 184, 3) := by decide +kernel
theorem dX0_takeOut_20 : decode cX0_takeOut 20 = .ok (.iinc 2 1, 3) := by decide +kernel
theorem dX0_takeOut_23 : decode cX0_takeOut 23 = .ok (.goto (-19), 3) := by decide +kernel
theorem dX0_takeOut_26 : decode cX0_takeOut 26 = .ok (.aload_n 0, 1) := by decide +kernel
theorem dX0_takeOut_27 : decode cX0_takeOut 27 = .ok (.dup, 1) := by decide +kernel
theorem dX0_takeOut_28 : decode cX0_takeOut 28 = .ok (.getfield 30, 3) := by decide +kernel
theorem dX0_takeOut_31 : decode cX0_takeOut 31 = .ok (.iconst 1, 1) := by decide +kernel
theorem dX0_takeOut_32 : decode cX0_takeOut 32 = .ok (.isub, 1) := by decide +kernel
theorem dX0_takeOut_33 : decode cX0_takeOut 33 = .ok (.putfield 30, 3) := by decide +kernel
theorem dX0_takeOut_36 : decode cX0_takeOut 36 = .ok (.return_, 1) := by decide +kernel
theorem dX0_remove_0 : decode cX0_remove 0 = .ok (.iload_n 1, 1) := by decide +kernel
theorem dX0_remove_1 : decode cX0_remove 1 = .ok (.iconst (-1), 1) := by decide +kernel
theorem dX0_remove_2 : decode cX0_remove 2 = .ok (.if_icmp .ne 5, 3) := by decide +kernel
theorem dX0_remove_5 : decode cX0_remove 5 = .ok (.iconst (-1), 1) := by decide +kernel
theorem dX0_remove_6 : decode cX0_remove 6 = .ok (.ireturn, 1) := by decide +kernel
theorem dX0_remove_7 : decode cX0_remove 7 = .ok (.aload_n 0, 1) := by decide +kernel
theorem dX0_remove_8 : decode cX0_remove 8 = .ok (.getfield 15, 3) := by decide +kernel
theorem dX0_remove_11 : decode cX0_remove 11 = .ok (.iload_n 1, 1) := by decide +kernel
theorem dX0_remove_12 : decode cX0_remove 12 = .ok (.iaload, 1) := by decide +kernel
theorem dX0_remove_13 : decode cX0_remove 13 = .ok (.istore_n 2, 1) := by decide +kernel
theorem dX0_remove_14 : decode cX0_remove 14 = .ok (.aload_n 0, 1) := by decide +kernel
theorem dX0_remove_15 : decode cX0_remove 15 = .ok (.iload_n 1, 1) := by decide +kernel
theorem dX0_remove_16 : decode cX0_remove 16 = .ok (.invokevirtual 180, 3) := by decide +kernel
theorem dX0_remove_19 : decode cX0_remove 19 = .ok (.iload_n 2, 1) := by decide +kernel
theorem dX0_remove_20 : decode cX0_remove 20 = .ok (.ireturn, 1) := by decide +kernel
theorem dX0_move_0 : decode cX0_move 0 = .ok (.iload_n 1, 1) := by decide +kernel
theorem dX0_move_1 : decode cX0_move 1 = .ok (.iconst (-1), 1) := by decide +kernel
theorem dX0_move_2 : decode cX0_move 2 = .ok (.if_icmp .ne 5, 3) := by decide +kernel
theorem dX0_move_5 : decode cX0_move 5 = .ok (.iconst (-1), 1) := by decide +kernel
theorem dX0_move_6 : decode cX0_move 6 = .ok (.ireturn, 1) := by decide +kernel
theorem dX0_move_7 : decode cX0_move 7 = .ok (.aload_n 0, 1) := by decide +kernel
theorem dX0_move_8 : decode cX0_move 8 = .ok (.getfield 9, 3) := by decide +kernel
theorem dX0_move_11 : decode cX0_move 11 = .ok (.iload_n 1, 1) := by decide +kernel
theorem dX0_move_12 : decode cX0_move 12 = .ok (.iaload, 1) := by decide +kernel
theorem dX0_move_13 : decode cX0_move 13 = .ok (.istore_n 3, 1) := by decide +kernel
theorem dX0_move_14 : decode cX0_move 14 = .ok (.aload_n 0, 1) := by decide +kernel
theorem dX0_move_15 : decode cX0_move 15 = .ok (.getfield 18, 3) := by decide +kernel
theorem dX0_move_18 : decode cX0_move 18 = .ok (.iload_n 1, 1) := by decide +kernel
theorem dX0_move_19 : decode cX0_move 19 = .ok (.iaload, 1) := by decide +kernel
theorem dX0_move_20 : decode cX0_move 20 = .ok (.istore 4, 2) := by decide +kernel
theorem dX0_move_22 : decode cX0_move 22 = .ok (.aload_n 0, 1) := by decide +kernel
theorem dX0_move_23 : decode cX0_move 23 = .ok (.getfield 21, 3) := by decide +kernel
theorem dX0_move_26 : decode cX0_move 26 = .ok (.iload_n 1, 1) := by decide +kernel
theorem dX0_move_27 : decode cX0_move 27 = .ok (.iaload, 1) := by decide +kernel
theorem dX0_move_28 : decode cX0_move 28 = .ok (.istore 5, 2) := by decide +kernel
theorem dX0_move_30 : decode cX0_move 30 = .ok (.aload_n 0, 1) := by decide +kernel
theorem dX0_move_31 : decode cX0_move 31 = .ok (.getfield 24, 3) := by decide +kernel
theorem dX0_move_34 : decode cX0_move 34 = .ok (.iload_n 1, 1) := by decide +kernel
theorem dX0_move_35 : decode cX0_move 35 = .ok (.iaload, 1) := by decide +kernel
theorem dX0_move_36 : decode cX0_move 36 = .ok (.istore 6, 2) := by decide +kernel
theorem dX0_move_38 : decode cX0_move 38 = .ok (.aload_n 0, 1) := by decide +kernel
theorem dX0_move_39 : decode cX0_move 39 = .ok (.iload_n 1, 1) := by decide +kernel
theorem dX0_move_40 : decode cX0_move 40 = .ok (.invokevirtual 157, 3) := by decide +kernel
theorem dX0_move_43 : decode cX0_move 43 = .ok (.istore 7, 2) := by decide +kernel
theorem dX0_move_45 : decode cX0_move 45 = .ok (.aload_n 0, 1) := by decide +kernel
theorem dX0_move_46 : decode cX0_move 46 = .ok (.iload_n 3, 1) := by decide +kernel
theorem dX0_move_47 : decode cX0_move 47 = .ok (.iload_n 2, 1) := by decide +kernel
theorem dX0_move_48 : decode cX0_move 48 = .ok (.iload 4, 2) := by decide +kernel
theorem dX0_move_50 : decode cX0_move 50 = .ok (.iload 5, 2) := by decide +kernel
theorem dX0_move_52 : decode cX0_move 52 = .ok (.iload 6, 2) := by decide +kernel
theorem dX0_move_54 : decode cX0_move 54 = .ok (.invokevirtual 176, 3) := by decide +kernel
theorem dX0_move_57 : decode cX0_move 57 = .ok (.iload 7, 2) := by decide +kernel
theorem dX0_move_59 : decode cX0_move 59 = .ok (.ireturn, 1) := by decide +kernel
theorem dX0_swap_0 : decode cX0_swap 0 = .ok (.iload_n 1, 1) := by decide +kernel
theorem dX0_swap_1 : decode cX0_swap 1 = .ok (.iconst (-1), 1) := by decide +kernel
theorem dX0_swap_2 : decode cX0_swap 2 = .ok (.if_icmp .eq 8, 3) := by decide +kernel
theorem dX0_swap_5 : decode cX0_swap 5 = .ok (.iload_n 2, 1) := by decide +kernel
theorem dX0_swap_6 : decode cX0_swap 6 = .ok (.iconst (-1), 1) := by decide +kernel
theorem dX0_swap_7 : decode cX0_swap 7 = .ok (.if_icmp .ne 5, 3) := by decide +kernel
theorem dX0_swap_10 : decode cX0_swap 10 = .ok (.iconst (-1), 1) := by decide +kernel
theorem dX0_swap_11 : decode cX0_swap 11 = .ok (.ireturn, 1) := by decide +kernel
theorem dX0_swap_12 : decode cX0_swap 12 = .ok (.aload_n 0, 1) := by decide +kernel
theorem dX0_swap_13 : decode cX0_swap 13 = .ok (.getfield 24, 3) := by decide +kernel
theorem dX0_swap_16 : decode cX0_swap 16 = .ok (.iload_n 2, 1) := by decide +kernel
theorem dX0_swap_17 : decode cX0_swap 17 = .ok (.iaload, 1) := by decide +kernel
theorem dX0_swap_18 : decode cX0_swap 18 = .ok (.istore_n 3, 1) := by decide +kernel
theorem dX0_swap_19 : decode cX0_swap 19 = .ok (.aload_n 0, 1) := by decide +kernel
theorem dX0_swap_20 : decode cX0_swap 20 = .ok (.getfield 24, 3) := by decide +kernel
theorem dX0_swap_23 : decode cX0_swap 23 = .ok (.iload_n 2, 1) := by decide +kernel
theorem dX0_swap_24 : decode cX0_swap 24 = .ok (.aload_n 0, 1) := by decide +kernel
theorem dX0_swap_25 : decode cX0_swap 25 = .ok (.getfield 24, 3) := by decide +kernel
theorem dX0_swap_28 : decode cX0_swap 28 = .ok (.iload_n 1, 1) := by decide +kernel
theorem dX0_swap_29 : decode cX0_swap 29 = .ok (.iaload, 1) := by decide +kernel
theorem dX0_swap_30 : decode cX0_swap 30 = .ok (.iastore, 1) := by decide +kernel
theorem dX0_swap_31 : decode cX0_swap 31 = .ok (.aload_n 0, 1) := by decide +kernel
theorem dX0_swap_32 : decode cX0_swap 32 = .ok (.getfield 24, 3) := by decide +kernel
theorem dX0_swap_35 : decode cX0_swap 35 = .ok (.iload_n 1, 1) := by decide +kernel
theorem dX0_swap_36 : decode cX0_swap 36 = .ok (.iload_n 3, 1) := by decide +kernel
theorem dX0_swap_37 : decode cX0_swap 37 = .ok (.iastore, 1) := by decide +kernel
theorem dX0_swap_38 : decode cX0_swap 38 = .ok (.iload_n 3, 1) := by decide +kernel
theorem dX0_swap_39 : decode cX0_swap 39 = .ok (.ireturn, 1) := by decide +kernel
theorem dX0_start_0 : decode cX0_start 0 = .ok (.aload_n 0, 1) := by decide +kernel
theorem dX0_start_1 : decode cX0_start 1 = .ok (.iload_n 1, 1) := by decide +kernel
theorem dX0_start_2 : decode cX0_start 2 = .ok (.invokevirtual 147, 3) := by decide +kernel
theorem dX0_start_5 : decode cX0_start 5 = .ok (.iconst 1, 1) := by decide +kernel
theorem dX0_start_6 : decode cX0_start 6 = .ok (.iadd, 1) := by decide +kernel
theorem dX0_start_7 : decode cX0_start 7 = .ok (.istore_n 2, 1) := by decide +kernel
theorem dX0_start_8 : decode cX0_start 8 = .ok (.aload_n 0, 1) := by decide +kernel
theorem dX0_start_9 : decode cX0_start 9 = .ok (.getfield 34, 3) := by decide +kernel
theorem dX0_start_12 : decode cX0_start 12 = .ok (.bipush 8, 2) := by decide +kernel
theorem dX0_start_14 : decode cX0_start 14 = .ok (.if_icmp .lt 5, 3) := by decide +kernel
theorem dX0_start_17 : decode cX0_start 17 = .ok (.iconst (-1), 1) := by decide +kernel
theorem dX0_start_18 : decode cX0_start 18 = .ok (.ireturn, 1) := by decide +kernel
theorem dX0_start_19 : decode cX0_start 19 = .ok (.aload_n 0, 1) := by decide +kernel
theorem dX0_start_20 : decode cX0_start 20 = .ok (.getfield 34, 3) := by decide +kernel
theorem dX0_start_23 : decode cX0_start 23 = .ok (.istore_n 3, 1) := by decide +kernel
theorem dX0_start_24 : decode cX0_start 24 = .ok (.iload_n 3, 1) := by decide +kernel
theorem dX0_start_25 : decode cX0_start 25 = .ok (.iload_n 2, 1) := by decide +kernel
theorem dX0_start_26 : decode cX0_start 26 = .ok (.if_icmp .le 23, 3) := by decide +kernel
theorem dX0_start_29 : decode cX0_start 29 = .ok (.aload_n 0, 1) := by decide +kernel
theorem dX0_start_30 : decode cX0_start 30 = .ok (.getfield 27, 3) := by decide +kernel
theorem dX0_start_33 : decode cX0_start 33 = .ok (.iload_n 3, 1) := by decide +kernel
theorem dX0_start_34 : decode cX0_start 34 = .ok (.aload_n 0, 1) := by decide +kernel
theorem dX0_start_35 : decode cX0_start 35 = .ok (.getfield 27, 3) := by decide +kernel
theorem dX0_start_38 : decode cX0_start 38 = .ok (.iload_n 3, 1) := by decide +kernel
theorem dX0_start_39 : decode cX0_start 39 = .ok (.iconst 1, 1) := by decide +kernel
theorem dX0_start_40 : decode cX0_start 40 = .ok (.isub, 1) := by decide +kernel
theorem dX0_start_41 : decode cX0_start 41 = .ok (.iaload, 1) := by decide +kernel
theorem dX0_start_42 : decode cX0_start 42 = .ok (.iastore, 1) := by decide +kernel
theorem dX0_start_43 : decode cX0_start 43 = .ok (.iinc 3 (-1), 3) := by decide +kernel
theorem dX0_start_46 : decode cX0_start 46 = .ok (.goto (-22), 3) := by decide +kernel
theorem dX0_start_49 : decode cX0_start 49 = .ok (.aload_n 0, 1) := by decide +kernel
theorem dX0_start_50 : decode cX0_start 50 = .ok (.getfield 27, 3) := by decide +kernel
theorem dX0_start_53 : decode cX0_start 53 = .ok (.iload_n 2, 1) := by decide +kernel
theorem dX0_start_54 : decode cX0_start 54 = .ok (.iload_n 1, 1) := by decide +kernel
theorem dX0_start_55 : decode cX0_start 55 = .ok (.iastore, 1) := by decide +kernel
theorem dX0_start_56 : decode cX0_start 56 = .ok (.aload_n 0, 1) := by decide +kernel
theorem dX0_start_57 : decode cX0_start 57 = .ok (.dup, 1) := by decide +kernel
theorem dX0_start_58 : decode cX0_start 58 = .ok (.getfield 34, 3) := by decide +kernel
theorem dX0_start_61 : decode cX0_start 61 = .ok (.iconst 1, 1) := by decide +kernel
theorem dX0_start_62 : decode cX0_start 62 = .ok (.iadd, 1) := by decide +kernel
theorem dX0_start_63 : decode cX0_start 63 = .ok (.putfield 34, 3) := by decide +kernel
theorem dX0_start_66 : decode cX0_start 66 = .ok (.iload_n 2, 1) := by decide +kernel
theorem dX0_start_67 : decode cX0_start 67 = .ok (.ireturn, 1) := by decide +kernel
theorem dX0_removeEarsIn_0 : decode cX0_removeEarsIn 0 = .ok (.aload_n 0, 1) := by decide +kernel
theorem dX0_removeEarsIn_1 : decode cX0_removeEarsIn 1 = .ok (.getfield 30, 3) := by decide +kernel
theorem dX0_removeEarsIn_4 : decode cX0_removeEarsIn 4 = .ok (.iconst 1, 1) := by decide +kernel
theorem dX0_removeEarsIn_5 : decode cX0_removeEarsIn 5 = .ok (.isub, 1) := by decide +kernel
theorem dX0_removeEarsIn_6 : decode cX0_removeEarsIn 6 = .ok (.istore_n 2, 1) := by decide +kernel
theorem dX0_removeEarsIn_7 : decode cX0_removeEarsIn 7 = .ok (.iload_n 2, 1) := by decide +kernel
theorem dX0_removeEarsIn_8 : decode cX0_removeEarsIn 8 = .ok (.ifCond .lt 31, 3) := by decide +kernel
theorem dX0_removeEarsIn_11 : decode cX0_removeEarsIn 11 = .ok (.aload_n 0, 1) := by decide +kernel
theorem dX0_removeEarsIn_12 : decode cX0_removeEarsIn 12 = .ok (.iload_n 2, 1) := by decide +kernel
theorem dX0_removeEarsIn_13 : decode cX0_removeEarsIn 13 = .ok (.invokevirtual 72, 3) := by decide +kernel
theorem dX0_removeEarsIn_16 : decode cX0_removeEarsIn 16 = .ok (.ifCond .ne 17, 3) := by decide +kernel
theorem dX0_removeEarsIn_19 : decode cX0_removeEarsIn 19 = .ok (.aload_n 0, 1) := by decide +kernel
theorem dX0_removeEarsIn_20 : decode cX0_removeEarsIn 20 = .ok (.iload_n 2, 1) := by decide +kernel
theorem dX0_removeEarsIn_21 : decode cX0_removeEarsIn 21 = .ok (.iload_n 1, 1) := by decide +kernel
theorem dX0_removeEarsIn_22 : decode cX0_removeEarsIn 22 = .ok (.invokevirtual 85, 3) := by decide +kernel
theorem dX0_removeEarsIn_25 : decode cX0_removeEarsIn 25 = .ok (.ifCond .eq 8, 3) := by decide +kernel
theorem dX0_removeEarsIn_28 : decode cX0_removeEarsIn 28 = .ok (.aload_n 0, 1) := by decide +kernel
theorem dX0_removeEarsIn_29 : decode cX0_removeEarsIn 29 = .ok (.iload_n 2, 1) := by decide +kernel
theorem dX0_removeEarsIn_30 : decode cX0_removeEarsIn 30 = .ok (.invokevirtual 180, 3) := by decide +kernel
theorem dX0_removeEarsIn_33 : decode cX0_removeEarsIn 33 = .ok (.iinc 2 (-1), 3) := by decide +kernel
theorem dX0_removeEarsIn_36 : decode cX0_removeEarsIn 36 = .ok (.goto (-29), 3) := by decide +kernel
theorem dX0_removeEarsIn_39 : decode cX0_removeEarsIn 39 = .ok (.return_, 1) := by decide +kernel
theorem dX0_dropStart_0 : decode cX0_dropStart 0 = .ok (.iload_n 1, 1) := by decide +kernel
theorem dX0_dropStart_1 : decode cX0_dropStart 1 = .ok (.iconst 1, 1) := by decide +kernel
theorem dX0_dropStart_2 : decode cX0_dropStart 2 = .ok (.iadd, 1) := by decide +kernel
theorem dX0_dropStart_3 : decode cX0_dropStart 3 = .ok (.istore_n 2, 1) := by decide +kernel
theorem dX0_dropStart_4 : decode cX0_dropStart 4 = .ok (.iload_n 2, 1) := by decide +kernel
theorem dX0_dropStart_5 : decode cX0_dropStart 5 = .ok (.aload_n 0, 1) := by decide +kernel
theorem dX0_dropStart_6 : decode cX0_dropStart 6 = .ok (.getfield 34, 3) := by decide +kernel
theorem dX0_dropStart_9 : decode cX0_dropStart 9 = .ok (.if_icmp .ge 23, 3) := by decide +kernel
theorem dX0_dropStart_12 : decode cX0_dropStart 12 = .ok (.aload_n 0, 1) := by decide +kernel
theorem dX0_dropStart_13 : decode cX0_dropStart 13 = .ok (.getfield 27, 3) := by decide +kernel
theorem dX0_dropStart_16 : decode cX0_dropStart 16 = .ok (.iload_n 2, 1) := by decide +kernel
theorem dX0_dropStart_17 : decode cX0_dropStart 17 = .ok (.iconst 1, 1) := by decide +kernel
theorem dX0_dropStart_18 : decode cX0_dropStart 18 = .ok (.isub, 1) := by decide +kernel
theorem dX0_dropStart_19 : decode cX0_dropStart 19 = .ok (.aload_n 0, 1) := by decide +kernel
theorem dX0_dropStart_20 : decode cX0_dropStart 20 = .ok (.getfield 27, 3) := by decide +kernel
theorem dX0_dropStart_23 : decode cX0_dropStart 23 = .ok (.iload_n 2, 1) := by decide +kernel
theorem dX0_dropStart_24 : decode cX0_dropStart 24 = .ok (.iaload, 1) := by decide +kernel
theorem dX0_dropStart_25 : decode cX0_dropStart 25 = .ok (.iastore, 1) := by decide +kernel
theorem dX0_dropStart_26 : decode cX0_dropStart 26 = .ok (.iinc 2 1, 3) := by decide +kernel
theorem dX0_dropStart_29 : decode cX0_dropStart 29 = .ok (.goto (-25), 3) := by decide +kernel
theorem dX0_dropStart_32 : decode cX0_dropStart 32 = .ok (.aload_n 0, 1) := by decide +kernel
theorem dX0_dropStart_33 : decode cX0_dropStart 33 = .ok (.dup, 1) := by decide +kernel
theorem dX0_dropStart_34 : decode cX0_dropStart 34 = .ok (.getfield 34, 3) := by decide +kernel
theorem dX0_dropStart_37 : decode cX0_dropStart 37 = .ok (.iconst 1, 1) := by decide +kernel
theorem dX0_dropStart_38 : decode cX0_dropStart 38 = .ok (.isub, 1) := by decide +kernel
theorem dX0_dropStart_39 : decode cX0_dropStart 39 = .ok (.putfield 34, 3) := by decide +kernel
theorem dX0_dropStart_42 : decode cX0_dropStart 42 = .ok (.return_, 1) := by decide +kernel
theorem dX0_vote_0 : decode cX0_vote 0 = .ok (.aload_n 0, 1) := by decide +kernel
theorem dX0_vote_1 : decode cX0_vote 1 = .ok (.dup, 1) := by decide +kernel
theorem dX0_vote_2 : decode cX0_vote 2 = .ok (.getfield 43, 3) := by decide +kernel
theorem dX0_vote_5 : decode cX0_vote 5 = .ok (.iconst 1, 1) := by decide +kernel
theorem dX0_vote_6 : decode cX0_vote 6 = .ok (.iadd, 1) := by decide +kernel
theorem dX0_vote_7 : decode cX0_vote 7 = .ok (.putfield 43, 3) := by decide +kernel
theorem dX0_vote_10 : decode cX0_vote 10 = .ok (.aload_n 0, 1) := by decide +kernel
theorem dX0_vote_11 : decode cX0_vote 11 = .ok (.iload_n 1, 1) := by decide +kernel
theorem dX0_vote_12 : decode cX0_vote 12 = .ok (.invokevirtual 188, 3) := by decide +kernel
theorem dX0_vote_15 : decode cX0_vote 15 = .ok (.ifCond .ne 5, 3) := by decide +kernel
theorem dX0_vote_18 : decode cX0_vote 18 = .ok (.iconst 0, 1) := by decide +kernel
theorem dX0_vote_19 : decode cX0_vote 19 = .ok (.ireturn, 1) := by decide +kernel
theorem dX0_vote_20 : decode cX0_vote 20 = .ok (.aload_n 0, 1) := by decide +kernel
theorem dX0_vote_21 : decode cX0_vote 21 = .ok (.dup, 1) := by decide +kernel
theorem dX0_vote_22 : decode cX0_vote 22 = .ok (.getfield 46, 3) := by decide +kernel
theorem dX0_vote_25 : decode cX0_vote 25 = .ok (.iconst 1, 1) := by decide +kernel
theorem dX0_vote_26 : decode cX0_vote 26 = .ok (.iadd, 1) := by decide +kernel
theorem dX0_vote_27 : decode cX0_vote 27 = .ok (.putfield 46, 3) := by decide +kernel
theorem dX0_vote_30 : decode cX0_vote 30 = .ok (.aload_n 0, 1) := by decide +kernel
theorem dX0_vote_31 : decode cX0_vote 31 = .ok (.iload_n 1, 1) := by decide +kernel
theorem dX0_vote_32 : decode cX0_vote 32 = .ok (.invokevirtual 191, 3) := by decide +kernel
theorem dX0_vote_35 : decode cX0_vote 35 = .ok (.aload_n 0, 1) := by decide +kernel
theorem dX0_vote_36 : decode cX0_vote 36 = .ok (.iload_n 1, 1) := by decide +kernel
theorem dX0_vote_37 : decode cX0_vote 37 = .ok (.ifCond .ne 7, 3) := by decide +kernel
theorem dX0_vote_40 : decode cX0_vote 40 = .ok (.iconst 1, 1) := by decide +kernel
theorem dX0_vote_41 : decode cX0_vote 41 = .ok (.goto 4, 3) := by decide +kernel
theorem dX0_vote_44 : decode cX0_vote 44 = .ok (.iload_n 1, 1) := by decide +kernel
theorem dX0_vote_45 : decode cX0_vote 45 = .ok (.invokevirtual 194, 3) := by decide +kernel
theorem dX0_vote_48 : decode cX0_vote 48 = .ok (.iconst 1, 1) := by decide +kernel
theorem dX0_vote_49 : decode cX0_vote 49 = .ok (.ireturn, 1) := by decide +kernel
theorem dX0_isEarOnTheWay_0 : decode cX0_isEarOnTheWay 0 = .ok (.iload_n 3, 1) := by decide +kernel
theorem dX0_isEarOnTheWay_1 : decode cX0_isEarOnTheWay 1 = .ok (.ifCond .eq 17, 3) := by decide +kernel
theorem dX0_isEarOnTheWay_4 : decode cX0_isEarOnTheWay 4 = .ok (.aload_n 0, 1) := by decide +kernel
theorem dX0_isEarOnTheWay_5 : decode cX0_isEarOnTheWay 5 = .ok (.getfield 15, 3) := by decide +kernel
theorem dX0_isEarOnTheWay_8 : decode cX0_isEarOnTheWay 8 = .ok (.iload_n 1, 1) := by decide +kernel
theorem dX0_isEarOnTheWay_9 : decode cX0_isEarOnTheWay 9 = .ok (.iaload, 1) := by decide +kernel
theorem dX0_isEarOnTheWay_10 : decode cX0_isEarOnTheWay 10 = .ok (.aload_n 0, 1) := by decide +kernel
theorem dX0_isEarOnTheWay_11 : decode cX0_isEarOnTheWay 11 = .ok (.getfield 37, 3) := by decide +kernel
theorem dX0_isEarOnTheWay_14 : decode cX0_isEarOnTheWay 14 = .ok (.isub, 1) := by decide +kernel
theorem dX0_isEarOnTheWay_15 : decode cX0_isEarOnTheWay 15 = .ok (.goto 14, 3) := by decide +kernel
theorem dX0_isEarOnTheWay_18 : decode cX0_isEarOnTheWay 18 = .ok (.aload_n 0, 1) := by decide +kernel
theorem dX0_isEarOnTheWay_19 : decode cX0_isEarOnTheWay 19 = .ok (.getfield 37, 3) := by decide +kernel
theorem dX0_isEarOnTheWay_22 : decode cX0_isEarOnTheWay 22 = .ok (.aload_n 0, 1) := by decide +kernel
theorem dX0_isEarOnTheWay_23 : decode cX0_isEarOnTheWay 23 = .ok (.getfield 15, 3) := by decide +kernel
theorem dX0_isEarOnTheWay_26 : decode cX0_isEarOnTheWay 26 = .ok (.iload_n 1, 1) := by decide +kernel
theorem dX0_isEarOnTheWay_27 : decode cX0_isEarOnTheWay 27 = .ok (.iaload, 1) := by decide +kernel
theorem dX0_isEarOnTheWay_28 : decode cX0_isEarOnTheWay 28 = .ok (.isub, 1) := by decide +kernel
theorem dX0_isEarOnTheWay_29 : decode cX0_isEarOnTheWay 29 = .ok (.istore 4, 2) := by decide +kernel
theorem dX0_isEarOnTheWay_31 : decode cX0_isEarOnTheWay 31 = .ok (.aload_n 0, 1) := by decide +kernel
theorem dX0_isEarOnTheWay_32 : decode cX0_isEarOnTheWay 32 = .ok (.iload_n 1, 1) := by decide +kernel
theorem dX0_isEarOnTheWay_33 : decode cX0_isEarOnTheWay 33 = .ok (.invokevirtual 72, 3) := by decide +kernel
theorem dX0_isEarOnTheWay_36 : decode cX0_isEarOnTheWay 36 = .ok (.ifCond .ne 19, 3) := by decide +kernel
theorem dX0_isEarOnTheWay_39 : decode cX0_isEarOnTheWay 39 = .ok (.iload 4, 2) := by decide +kernel
theorem dX0_isEarOnTheWay_41 : decode cX0_isEarOnTheWay 41 = .ok (.iconst 1, 1) := by decide +kernel
theorem dX0_isEarOnTheWay_42 : decode cX0_isEarOnTheWay 42 = .ok (.if_icmp .lt 13, 3) := by decide +kernel
theorem dX0_isEarOnTheWay_45 : decode cX0_isEarOnTheWay 45 = .ok (.iload 4, 2) := by decide +kernel
theorem dX0_isEarOnTheWay_47 : decode cX0_isEarOnTheWay 47 = .ok (.iload_n 2, 1) := by decide +kernel
theorem dX0_isEarOnTheWay_48 : decode cX0_isEarOnTheWay 48 = .ok (.if_icmp .gt 7, 3) := by decide +kernel
theorem dX0_isEarOnTheWay_51 : decode cX0_isEarOnTheWay 51 = .ok (.iconst 1, 1) := by decide +kernel
theorem dX0_isEarOnTheWay_52 : decode cX0_isEarOnTheWay 52 = .ok (.goto 4, 3) := by decide +kernel
theorem dX0_isEarOnTheWay_55 : decode cX0_isEarOnTheWay 55 = .ok (.iconst 0, 1) := by decide +kernel
theorem dX0_isEarOnTheWay_56 : decode cX0_isEarOnTheWay 56 = .ok (.ireturn, 1) := by decide +kernel
theorem dX0_turn_0 : decode cX0_turn 0 = .ok (.iconst 0, 1) := by decide +kernel
theorem dX0_turn_1 : decode cX0_turn 1 = .ok (.istore_n 3, 1) := by decide +kernel
theorem dX0_turn_2 : decode cX0_turn 2 = .ok (.aload_n 0, 1) := by decide +kernel
theorem dX0_turn_3 : decode cX0_turn 3 = .ok (.getfield 30, 3) := by decide +kernel
theorem dX0_turn_6 : decode cX0_turn 6 = .ok (.iconst 1, 1) := by decide +kernel
theorem dX0_turn_7 : decode cX0_turn 7 = .ok (.isub, 1) := by decide +kernel
theorem dX0_turn_8 : decode cX0_turn 8 = .ok (.istore 4, 2) := by decide +kernel
theorem dX0_turn_10 : decode cX0_turn 10 = .ok (.iload 4, 2) := by decide +kernel
theorem dX0_turn_12 : decode cX0_turn 12 = .ok (.ifCond .lt 51, 3) := by decide +kernel
theorem dX0_turn_15 : decode cX0_turn 15 = .ok (.aload_n 0, 1) := by decide +kernel
theorem dX0_turn_16 : decode cX0_turn 16 = .ok (.iload 4, 2) := by decide +kernel
theorem dX0_turn_18 : decode cX0_turn 18 = .ok (.iload_n 1, 1) := by decide +kernel
theorem dX0_turn_19 : decode cX0_turn 19 = .ok (.iload_n 2, 1) := by decide +kernel
theorem dX0_turn_20 : decode cX0_turn 20 = .ok (.invokevirtual 197, 3) := by decide +kernel
theorem dX0_turn_23 : decode cX0_turn 23 = .ok (.ifCond .eq 34, 3) := by decide +kernel
theorem dX0_turn_26 : decode cX0_turn 26 = .ok (.aload_n 0, 1) := by decide +kernel
theorem dX0_turn_27 : decode cX0_turn 27 = .ok (.getfield 21, 3) := by decide +kernel
theorem dX0_turn_30 : decode cX0_turn 30 = .ok (.iload 4, 2) := by decide +kernel
theorem dX0_turn_32 : decode cX0_turn 32 = .ok (.dup2, 1) := by decide +kernel
theorem dX0_turn_33 : decode cX0_turn 33 = .ok (.iaload, 1) := by decide +kernel
theorem dX0_turn_34 : decode cX0_turn 34 = .ok (.iconst 1, 1) := by decide +kernel
theorem dX0_turn_35 : decode cX0_turn 35 = .ok (.iadd, 1) := by decide +kernel
theorem dX0_turn_36 : decode cX0_turn 36 = .ok (.iastore, 1) := by decide +kernel
theorem dX0_turn_37 : decode cX0_turn 37 = .ok (.aload_n 0, 1) := by decide +kernel
theorem dX0_turn_38 : decode cX0_turn 38 = .ok (.getfield 21, 3) := by decide +kernel
theorem dX0_turn_41 : decode cX0_turn 41 = .ok (.iload 4, 2) := by decide +kernel
theorem dX0_turn_43 : decode cX0_turn 43 = .ok (.iaload, 1) := by decide +kernel
theorem dX0_turn_44 : decode cX0_turn 44 = .ok (.iconst 3, 1) := by decide +kernel
theorem dX0_turn_45 : decode cX0_turn 45 = .ok (.if_icmp .lt 12, 3) := by decide +kernel
theorem dX0_turn_48 : decode cX0_turn 48 = .ok (.aload_n 0, 1) := by decide +kernel
theorem dX0_turn_49 : decode cX0_turn 49 = .ok (.iload 4, 2) := by decide +kernel
theorem dX0_turn_51 : decode cX0_turn 51 = .ok (.invokevirtual 180, 3) := by decide +kernel
theorem dX0_turn_54 : decode cX0_turn 54 = .ok (.iinc 3 1, 3) := by decide +kernel
theorem dX0_turn_57 : decode cX0_turn 57 = .ok (.iinc 4 (-1), 3) := by decide +kernel
theorem dX0_turn_60 : decode cX0_turn 60 = .ok (.goto (-50), 3) := by decide +kernel
theorem dX0_turn_63 : decode cX0_turn 63 = .ok (.aload_n 0, 1) := by decide +kernel
theorem dX0_turn_64 : decode cX0_turn 64 = .ok (.dup, 1) := by decide +kernel
theorem dX0_turn_65 : decode cX0_turn 65 = .ok (.getfield 49, 3) := by decide +kernel
theorem dX0_turn_68 : decode cX0_turn 68 = .ok (.iload_n 3, 1) := by decide +kernel
theorem dX0_turn_69 : decode cX0_turn 69 = .ok (.iadd, 1) := by decide +kernel
theorem dX0_turn_70 : decode cX0_turn 70 = .ok (.putfield 49, 3) := by decide +kernel
theorem dX0_turn_73 : decode cX0_turn 73 = .ok (.aload_n 0, 1) := by decide +kernel
theorem dX0_turn_74 : decode cX0_turn 74 = .ok (.iload_n 2, 1) := by decide +kernel
theorem dX0_turn_75 : decode cX0_turn 75 = .ok (.ifCond .eq 12, 3) := by decide +kernel
theorem dX0_turn_78 : decode cX0_turn 78 = .ok (.aload_n 0, 1) := by decide +kernel
theorem dX0_turn_79 : decode cX0_turn 79 = .ok (.getfield 37, 3) := by decide +kernel
theorem dX0_turn_82 : decode cX0_turn 82 = .ok (.iload_n 1, 1) := by decide +kernel
theorem dX0_turn_83 : decode cX0_turn 83 = .ok (.iadd, 1) := by decide +kernel
theorem dX0_turn_84 : decode cX0_turn 84 = .ok (.goto 9, 3) := by decide +kernel
theorem dX0_turn_87 : decode cX0_turn 87 = .ok (.aload_n 0, 1) := by decide +kernel
theorem dX0_turn_88 : decode cX0_turn 88 = .ok (.getfield 37, 3) := by decide +kernel
theorem dX0_turn_91 : decode cX0_turn 91 = .ok (.iload_n 1, 1) := by decide +kernel
theorem dX0_turn_92 : decode cX0_turn 92 = .ok (.isub, 1) := by decide +kernel
theorem dX0_turn_93 : decode cX0_turn 93 = .ok (.putfield 37, 3) := by decide +kernel
theorem dX0_turn_96 : decode cX0_turn 96 = .ok (.iload_n 3, 1) := by decide +kernel
theorem dX0_turn_97 : decode cX0_turn 97 = .ok (.ireturn, 1) := by decide +kernel
theorem dX0_carryOut_0 : decode cX0_carryOut 0 = .ok (.iload_n 1, 1) := by decide +kernel
theorem dX0_carryOut_1 : decode cX0_carryOut 1 = .ok (.tableswitch 185 67 88 #[158, 185, 114, 185, 185, 185, 185, 185, 185, 185, 132, 185, 185, 185, 185, 103, 143, 178, 185, 164, 185, 122], 103) := by decide +kernel
theorem dX0_carryOut_104 : decode cX0_carryOut 104 = .ok (.aload_n 0, 1) := by decide +kernel
theorem dX0_carryOut_105 : decode cX0_carryOut 105 = .ok (.iload_n 2, 1) := by decide +kernel
theorem dX0_carryOut_106 : decode cX0_carryOut 106 = .ok (.iload_n 3, 1) := by decide +kernel
theorem dX0_carryOut_107 : decode cX0_carryOut 107 = .ok (.aload_n 0, 1) := by decide +kernel
theorem dX0_carryOut_108 : decode cX0_carryOut 108 = .ok (.invokevirtual 141, 3) := by decide +kernel
theorem dX0_carryOut_111 : decode cX0_carryOut 111 = .ok (.invokevirtual 153, 3) := by decide +kernel
theorem dX0_carryOut_114 : decode cX0_carryOut 114 = .ok (.ireturn, 1) := by decide +kernel
theorem dX0_carryOut_115 : decode cX0_carryOut 115 = .ok (.aload_n 0, 1) := by decide +kernel
theorem dX0_carryOut_116 : decode cX0_carryOut 116 = .ok (.iload_n 2, 1) := by decide +kernel
theorem dX0_carryOut_117 : decode cX0_carryOut 117 = .ok (.iload_n 3, 1) := by decide +kernel
theorem dX0_carryOut_118 : decode cX0_carryOut 118 = .ok (.iconst (-1), 1) := by decide +kernel
theorem dX0_carryOut_119 : decode cX0_carryOut 119 = .ok (.invokevirtual 153, 3) := by decide +kernel
theorem dX0_carryOut_122 : decode cX0_carryOut 122 = .ok (.ireturn, 1) := by decide +kernel
theorem dX0_carryOut_123 : decode cX0_carryOut 123 = .ok (.aload_n 0, 1) := by decide +kernel
theorem dX0_carryOut_124 : decode cX0_carryOut 124 = .ok (.aload_n 0, 1) := by decide +kernel
theorem dX0_carryOut_125 : decode cX0_carryOut 125 = .ok (.iload_n 2, 1) := by decide +kernel
theorem dX0_carryOut_126 : decode cX0_carryOut 126 = .ok (.invokevirtual 116, 3) := by decide +kernel
theorem dX0_carryOut_129 : decode cX0_carryOut 129 = .ok (.invokevirtual 157, 3) := by decide +kernel
theorem dX0_carryOut_132 : decode cX0_carryOut 132 = .ok (.ireturn, 1) := by decide +kernel
theorem dX0_carryOut_133 : decode cX0_carryOut 133 = .ok (.aload_n 0, 1) := by decide +kernel
theorem dX0_carryOut_134 : decode cX0_carryOut 134 = .ok (.aload_n 0, 1) := by decide +kernel
theorem dX0_carryOut_135 : decode cX0_carryOut 135 = .ok (.iload_n 2, 1) := by decide +kernel
theorem dX0_carryOut_136 : decode cX0_carryOut 136 = .ok (.invokevirtual 116, 3) := by decide +kernel
theorem dX0_carryOut_139 : decode cX0_carryOut 139 = .ok (.iload_n 3, 1) := by decide +kernel
theorem dX0_carryOut_140 : decode cX0_carryOut 140 = .ok (.invokevirtual 160, 3) := by decide +kernel
theorem dX0_carryOut_143 : decode cX0_carryOut 143 = .ok (.ireturn, 1) := by decide +kernel
theorem dX0_carryOut_144 : decode cX0_carryOut 144 = .ok (.aload_n 0, 1) := by decide +kernel
theorem dX0_carryOut_145 : decode cX0_carryOut 145 = .ok (.aload_n 0, 1) := by decide +kernel
theorem dX0_carryOut_146 : decode cX0_carryOut 146 = .ok (.iload_n 2, 1) := by decide +kernel
theorem dX0_carryOut_147 : decode cX0_carryOut 147 = .ok (.invokevirtual 116, 3) := by decide +kernel
theorem dX0_carryOut_150 : decode cX0_carryOut 150 = .ok (.aload_n 0, 1) := by decide +kernel
theorem dX0_carryOut_151 : decode cX0_carryOut 151 = .ok (.iload_n 3, 1) := by decide +kernel
theorem dX0_carryOut_152 : decode cX0_carryOut 152 = .ok (.invokevirtual 116, 3) := by decide +kernel
theorem dX0_carryOut_155 : decode cX0_carryOut 155 = .ok (.invokevirtual 163, 3) := by decide +kernel
theorem dX0_carryOut_158 : decode cX0_carryOut 158 = .ok (.ireturn, 1) := by decide +kernel
theorem dX0_carryOut_159 : decode cX0_carryOut 159 = .ok (.aload_n 0, 1) := by decide +kernel
theorem dX0_carryOut_160 : decode cX0_carryOut 160 = .ok (.iload_n 2, 1) := by decide +kernel
theorem dX0_carryOut_161 : decode cX0_carryOut 161 = .ok (.invokevirtual 166, 3) := by decide +kernel
theorem dX0_carryOut_164 : decode cX0_carryOut 164 = .ok (.ireturn, 1) := by decide +kernel
theorem dX0_carryOut_165 : decode cX0_carryOut 165 = .ok (.aload_n 0, 1) := by decide +kernel
theorem dX0_carryOut_166 : decode cX0_carryOut 166 = .ok (.iload_n 2, 1) := by decide +kernel
theorem dX0_carryOut_167 : decode cX0_carryOut 167 = .ok (.invokevirtual 169, 3) := by decide +kernel
theorem dX0_carryOut_170 : decode cX0_carryOut 170 = .ok (.ifCond .eq 7, 3) := by decide +kernel
theorem dX0_carryOut_173 : decode cX0_carryOut 173 = .ok (.iconst 1, 1) := by decide +kernel
theorem dX0_carryOut_174 : decode cX0_carryOut 174 = .ok (.goto 4, 3) := by decide +kernel
theorem dX0_carryOut_177 : decode cX0_carryOut 177 = .ok (.iconst 0, 1) := by decide +kernel
theorem dX0_carryOut_178 : decode cX0_carryOut 178 = .ok (.ireturn, 1) := by decide +kernel
theorem dX0_carryOut_179 : decode cX0_carryOut 179 = .ok (.aload_n 0, 1) := by decide +kernel
theorem dX0_carryOut_180 : decode cX0_carryOut 180 = .ok (.iload_n 2, 1) := by decide +kernel
theorem dX0_carryOut_181 : decode cX0_carryOut 181 = .ok (.iconst 1, 1) := by decide +kernel
theorem dX0_carryOut_182 : decode cX0_carryOut 182 = .ok (.invokevirtual 172, 3) := by decide +kernel
theorem dX0_carryOut_185 : decode cX0_carryOut 185 = .ok (.ireturn, 1) := by decide +kernel
theorem dX0_carryOut_186 : decode cX0_carryOut 186 = .ok (.aload_n 0, 1) := by decide +kernel
theorem dX0_carryOut_187 : decode cX0_carryOut 187 = .ok (.iload_n 2, 1) := by decide +kernel
theorem dX0_carryOut_188 : decode cX0_carryOut 188 = .ok (.iconst 0, 1) := by decide +kernel
theorem dX0_carryOut_189 : decode cX0_carryOut 189 = .ok (.invokevirtual 172, 3) := by decide +kernel
theorem dX0_carryOut_192 : decode cX0_carryOut 192 = .ok (.ireturn, 1) := by decide +kernel
theorem dX0_earsAboutToFall_0 : decode cX0_earsAboutToFall 0 = .ok (.iconst 0, 1) := by decide +kernel
theorem dX0_earsAboutToFall_1 : decode cX0_earsAboutToFall 1 = .ok (.istore_n 3, 1) := by decide +kernel
theorem dX0_earsAboutToFall_2 : decode cX0_earsAboutToFall 2 = .ok (.iconst 0, 1) := by decide +kernel
theorem dX0_earsAboutToFall_3 : decode cX0_earsAboutToFall 3 = .ok (.istore 4, 2) := by decide +kernel
theorem dX0_earsAboutToFall_5 : decode cX0_earsAboutToFall 5 = .ok (.iload 4, 2) := by decide +kernel
theorem dX0_earsAboutToFall_7 : decode cX0_earsAboutToFall 7 = .ok (.aload_n 0, 1) := by decide +kernel
theorem dX0_earsAboutToFall_8 : decode cX0_earsAboutToFall 8 = .ok (.getfield 30, 3) := by decide +kernel
theorem dX0_earsAboutToFall_11 : decode cX0_earsAboutToFall 11 = .ok (.if_icmp .ge 36, 3) := by decide +kernel
theorem dX0_earsAboutToFall_14 : decode cX0_earsAboutToFall 14 = .ok (.aload_n 0, 1) := by decide +kernel
theorem dX0_earsAboutToFall_15 : decode cX0_earsAboutToFall 15 = .ok (.iload 4, 2) := by decide +kernel
theorem dX0_earsAboutToFall_17 : decode cX0_earsAboutToFall 17 = .ok (.iload_n 1, 1) := by decide +kernel
theorem dX0_earsAboutToFall_18 : decode cX0_earsAboutToFall 18 = .ok (.iload_n 2, 1) := by decide +kernel
theorem dX0_earsAboutToFall_19 : decode cX0_earsAboutToFall 19 = .ok (.invokevirtual 197, 3) := by decide +kernel
theorem dX0_earsAboutToFall_22 : decode cX0_earsAboutToFall 22 = .ok (.ifCond .eq 19, 3) := by decide +kernel
theorem dX0_earsAboutToFall_25 : decode cX0_earsAboutToFall 25 = .ok (.aload_n 0, 1) := by decide +kernel
theorem dX0_earsAboutToFall_26 : decode cX0_earsAboutToFall 26 = .ok (.getfield 21, 3) := by decide +kernel
theorem dX0_earsAboutToFall_29 : decode cX0_earsAboutToFall 29 = .ok (.iload 4, 2) := by decide +kernel
theorem dX0_earsAboutToFall_31 : decode cX0_earsAboutToFall 31 = .ok (.iaload, 1) := by decide +kernel
theorem dX0_earsAboutToFall_32 : decode cX0_earsAboutToFall 32 = .ok (.iconst 1, 1) := by decide +kernel
theorem dX0_earsAboutToFall_33 : decode cX0_earsAboutToFall 33 = .ok (.iadd, 1) := by decide +kernel
theorem dX0_earsAboutToFall_34 : decode cX0_earsAboutToFall 34 = .ok (.iconst 3, 1) := by decide +kernel
theorem dX0_earsAboutToFall_35 : decode cX0_earsAboutToFall 35 = .ok (.if_icmp .lt 6, 3) := by decide +kernel
theorem dX0_earsAboutToFall_38 : decode cX0_earsAboutToFall 38 = .ok (.iinc 3 1, 3) := by decide +kernel
theorem dX0_earsAboutToFall_41 : decode cX0_earsAboutToFall 41 = .ok (.iinc 4 1, 3) := by decide +kernel
theorem dX0_earsAboutToFall_44 : decode cX0_earsAboutToFall 44 = .ok (.goto (-39), 3) := by decide +kernel
theorem dX0_earsAboutToFall_47 : decode cX0_earsAboutToFall 47 = .ok (.iload_n 3, 1) := by decide +kernel
theorem dX0_earsAboutToFall_48 : decode cX0_earsAboutToFall 48 = .ok (.ireturn, 1) := by decide +kernel
theorem dX0_copyFrom_0 : decode cX0_copyFrom 0 = .ok (.aload_n 1, 1) := by decide +kernel
theorem dX0_copyFrom_1 : decode cX0_copyFrom 1 = .ok (.getfield 9, 3) := by decide +kernel
theorem dX0_copyFrom_4 : decode cX0_copyFrom 4 = .ok (.iconst 0, 1) := by decide +kernel
theorem dX0_copyFrom_5 : decode cX0_copyFrom 5 = .ok (.aload_n 0, 1) := by decide +kernel
theorem dX0_copyFrom_6 : decode cX0_copyFrom 6 = .ok (.getfield 9, 3) := by decide +kernel
theorem dX0_copyFrom_9 : decode cX0_copyFrom 9 = .ok (.iconst 0, 1) := by decide +kernel
theorem dX0_copyFrom_10 : decode cX0_copyFrom 10 = .ok (.bipush 12, 2) := by decide +kernel
theorem dX0_copyFrom_12 : decode cX0_copyFrom 12 = .ok (.invokestatic 52, 3) := by decide +kernel
theorem dX0_copyFrom_15 : decode cX0_copyFrom 15 = .ok (.aload_n 1, 1) := by decide +kernel
theorem dX0_copyFrom_16 : decode cX0_copyFrom 16 = .ok (.getfield 15, 3) := by decide +kernel
theorem dX0_copyFrom_19 : decode cX0_copyFrom 19 = .ok (.iconst 0, 1) := by decide +kernel
theorem dX0_copyFrom_20 : decode cX0_copyFrom 20 = .ok (.aload_n 0, 1) := by decide +kernel
theorem dX0_copyFrom_21 : decode cX0_copyFrom 21 = .ok (.getfield 15, 3) := by decide +kernel
theorem dX0_copyFrom_24 : decode cX0_copyFrom 24 = .ok (.iconst 0, 1) := by decide +kernel
theorem dX0_copyFrom_25 : decode cX0_copyFrom 25 = .ok (.bipush 12, 2) := by decide +kernel
theorem dX0_copyFrom_27 : decode cX0_copyFrom 27 = .ok (.invokestatic 52, 3) := by decide +kernel
theorem dX0_copyFrom_30 : decode cX0_copyFrom 30 = .ok (.aload_n 1, 1) := by decide +kernel
theorem dX0_copyFrom_31 : decode cX0_copyFrom 31 = .ok (.getfield 18, 3) := by decide +kernel
theorem dX0_copyFrom_34 : decode cX0_copyFrom 34 = .ok (.iconst 0, 1) := by decide +kernel
theorem dX0_copyFrom_35 : decode cX0_copyFrom 35 = .ok (.aload_n 0, 1) := by decide +kernel
theorem dX0_copyFrom_36 : decode cX0_copyFrom 36 = .ok (.getfield 18, 3) := by decide +kernel
theorem dX0_copyFrom_39 : decode cX0_copyFrom 39 = .ok (.iconst 0, 1) := by decide +kernel
theorem dX0_copyFrom_40 : decode cX0_copyFrom 40 = .ok (.bipush 12, 2) := by decide +kernel
theorem dX0_copyFrom_42 : decode cX0_copyFrom 42 = .ok (.invokestatic 52, 3) := by decide +kernel
theorem dX0_copyFrom_45 : decode cX0_copyFrom 45 = .ok (.aload_n 1, 1) := by decide +kernel
theorem dX0_copyFrom_46 : decode cX0_copyFrom 46 = .ok (.getfield 21, 3) := by decide +kernel
theorem dX0_copyFrom_49 : decode cX0_copyFrom 49 = .ok (.iconst 0, 1) := by decide +kernel
theorem dX0_copyFrom_50 : decode cX0_copyFrom 50 = .ok (.aload_n 0, 1) := by decide +kernel
theorem dX0_copyFrom_51 : decode cX0_copyFrom 51 = .ok (.getfield 21, 3) := by decide +kernel
theorem dX0_copyFrom_54 : decode cX0_copyFrom 54 = .ok (.iconst 0, 1) := by decide +kernel
theorem dX0_copyFrom_55 : decode cX0_copyFrom 55 = .ok (.bipush 12, 2) := by decide +kernel
theorem dX0_copyFrom_57 : decode cX0_copyFrom 57 = .ok (.invokestatic 52, 3) := by decide +kernel
theorem dX0_copyFrom_60 : decode cX0_copyFrom 60 = .ok (.aload_n 1, 1) := by decide +kernel
theorem dX0_copyFrom_61 : decode cX0_copyFrom 61 = .ok (.getfield 24, 3) := by decide +kernel
theorem dX0_copyFrom_64 : decode cX0_copyFrom 64 = .ok (.iconst 0, 1) := by decide +kernel
theorem dX0_copyFrom_65 : decode cX0_copyFrom 65 = .ok (.aload_n 0, 1) := by decide +kernel
theorem dX0_copyFrom_66 : decode cX0_copyFrom 66 = .ok (.getfield 24, 3) := by decide +kernel
theorem dX0_copyFrom_69 : decode cX0_copyFrom 69 = .ok (.iconst 0, 1) := by decide +kernel
theorem dX0_copyFrom_70 : decode cX0_copyFrom 70 = .ok (.bipush 12, 2) := by decide +kernel
theorem dX0_copyFrom_72 : decode cX0_copyFrom 72 = .ok (.invokestatic 52, 3) := by decide +kernel
theorem dX0_copyFrom_75 : decode cX0_copyFrom 75 = .ok (.aload_n 1, 1) := by decide +kernel
theorem dX0_copyFrom_76 : decode cX0_copyFrom 76 = .ok (.getfield 27, 3) := by decide +kernel
theorem dX0_copyFrom_79 : decode cX0_copyFrom 79 = .ok (.iconst 0, 1) := by decide +kernel
theorem dX0_copyFrom_80 : decode cX0_copyFrom 80 = .ok (.aload_n 0, 1) := by decide +kernel
theorem dX0_copyFrom_81 : decode cX0_copyFrom 81 = .ok (.getfield 27, 3) := by decide +kernel
theorem dX0_copyFrom_84 : decode cX0_copyFrom 84 = .ok (.iconst 0, 1) := by decide +kernel
theorem dX0_copyFrom_85 : decode cX0_copyFrom 85 = .ok (.bipush 8, 2) := by decide +kernel
theorem dX0_copyFrom_87 : decode cX0_copyFrom 87 = .ok (.invokestatic 52, 3) := by decide +kernel
theorem dX0_copyFrom_90 : decode cX0_copyFrom 90 = .ok (.aload_n 0, 1) := by decide +kernel
theorem dX0_copyFrom_91 : decode cX0_copyFrom 91 = .ok (.aload_n 1, 1) := by decide +kernel
theorem dX0_copyFrom_92 : decode cX0_copyFrom 92 = .ok (.getfield 30, 3) := by decide +kernel
theorem dX0_copyFrom_95 : decode cX0_copyFrom 95 = .ok (.putfield 30, 3) := by decide +kernel
theorem dX0_copyFrom_98 : decode cX0_copyFrom 98 = .ok (.aload_n 0, 1) := by decide +kernel
theorem dX0_copyFrom_99 : decode cX0_copyFrom 99 = .ok (.aload_n 1, 1) := by decide +kernel
theorem dX0_copyFrom_100 : decode cX0_copyFrom 100 = .ok (.getfield 34, 3) := by decide +kernel
theorem dX0_copyFrom_103 : decode cX0_copyFrom 103 = .ok (.putfield 34, 3) := by decide +kernel
theorem dX0_copyFrom_106 : decode cX0_copyFrom 106 = .ok (.aload_n 0, 1) := by decide +kernel
theorem dX0_copyFrom_107 : decode cX0_copyFrom 107 = .ok (.aload_n 1, 1) := by decide +kernel
theorem dX0_copyFrom_108 : decode cX0_copyFrom 108 = .ok (.getfield 37, 3) := by decide +kernel
theorem dX0_copyFrom_111 : decode cX0_copyFrom 111 = .ok (.putfield 37, 3) := by decide +kernel
theorem dX0_copyFrom_114 : decode cX0_copyFrom 114 = .ok (.aload_n 0, 1) := by decide +kernel
theorem dX0_copyFrom_115 : decode cX0_copyFrom 115 = .ok (.aload_n 1, 1) := by decide +kernel
theorem dX0_copyFrom_116 : decode cX0_copyFrom 116 = .ok (.getfield 40, 3) := by decide +kernel
theorem dX0_copyFrom_119 : decode cX0_copyFrom 119 = .ok (.putfield 40, 3) := by decide +kernel
theorem dX0_copyFrom_122 : decode cX0_copyFrom 122 = .ok (.aload_n 0, 1) := by decide +kernel
theorem dX0_copyFrom_123 : decode cX0_copyFrom 123 = .ok (.aload_n 1, 1) := by decide +kernel
theorem dX0_copyFrom_124 : decode cX0_copyFrom 124 = .ok (.getfield 43, 3) := by decide +kernel
theorem dX0_copyFrom_127 : decode cX0_copyFrom 127 = .ok (.putfield 43, 3) := by decide +kernel
theorem dX0_copyFrom_130 : decode cX0_copyFrom 130 = .ok (.aload_n 0, 1) := by decide +kernel
theorem dX0_copyFrom_131 : decode cX0_copyFrom 131 = .ok (.aload_n 1, 1) := by decide +kernel
theorem dX0_copyFrom_132 : decode cX0_copyFrom 132 = .ok (.getfield 46, 3) := by decide +kernel
theorem dX0_copyFrom_135 : decode cX0_copyFrom 135 = .ok (.putfield 46, 3) := by decide +kernel
theorem dX0_copyFrom_138 : decode cX0_copyFrom 138 = .ok (.aload_n 0, 1) := by decide +kernel
theorem dX0_copyFrom_139 : decode cX0_copyFrom 139 = .ok (.aload_n 1, 1) := by decide +kernel
theorem dX0_copyFrom_140 : decode cX0_copyFrom 140 = .ok (.getfield 49, 3) := by decide +kernel
theorem dX0_copyFrom_143 : decode cX0_copyFrom 143 = .ok (.putfield 49, 3) := by decide +kernel
theorem dX0_copyFrom_146 : decode cX0_copyFrom 146 = .ok (.return_, 1) := by decide +kernel
theorem dX2_append_0 : decode cX2_append 0 = .ok (.aload_n 0, 1) := by decide +kernel
theorem dX2_append_1 : decode cX2_append 1 = .ok (.getfield 25, 3) := by decide +kernel
theorem dX2_append_4 : decode cX2_append 4 = .ok (.bipush 60, 2) := by decide +kernel
theorem dX2_append_6 : decode cX2_append 6 = .ok (.if_icmp .ge 23, 3) := by decide +kernel
theorem dX2_append_9 : decode cX2_append 9 = .ok (.aload_n 0, 1) := by decide +kernel
theorem dX2_append_10 : decode cX2_append 10 = .ok (.getfield 9, 3) := by decide +kernel
theorem dX2_append_13 : decode cX2_append 13 = .ok (.aload_n 0, 1) := by decide +kernel
theorem dX2_append_14 : decode cX2_append 14 = .ok (.getfield 25, 3) := by decide +kernel
theorem dX2_append_17 : decode cX2_append 17 = .ok (.iload_n 1, 1) := by decide +kernel
theorem dX2_append_18 : decode cX2_append 18 = .ok (.castore, 1) := by decide +kernel
theorem dX2_append_19 : decode cX2_append 19 = .ok (.aload_n 0, 1) := by decide +kernel
theorem dX2_append_20 : decode cX2_append 20 = .ok (.dup, 1) := by decide +kernel
theorem dX2_append_21 : decode cX2_append 21 = .ok (.getfield 25, 3) := by decide +kernel
theorem dX2_append_24 : decode cX2_append 24 = .ok (.iconst 1, 1) := by decide +kernel
theorem dX2_append_25 : decode cX2_append 25 = .ok (.iadd, 1) := by decide +kernel
theorem dX2_append_26 : decode cX2_append 26 = .ok (.putfield 25, 3) := by decide +kernel
theorem dX2_append_29 : decode cX2_append 29 = .ok (.aload_n 0, 1) := by decide +kernel
theorem dX2_append_30 : decode cX2_append 30 = .ok (.getfield 25, 3) := by decide +kernel
theorem dX2_append_33 : decode cX2_append 33 = .ok (.ireturn, 1) := by decide +kernel
theorem dX2_takesDigitLast_0 : decode cX2_takesDigitLast 0 = .ok (.iload_n 1, 1) := by decide +kernel
theorem dX2_takesDigitLast_1 : decode cX2_takesDigitLast 1 = .ok (.bipush 82, 2) := by decide +kernel
theorem dX2_takesDigitLast_3 : decode cX2_takesDigitLast 3 = .ok (.if_icmp .eq 9, 3) := by decide +kernel
theorem dX2_takesDigitLast_6 : decode cX2_takesDigitLast 6 = .ok (.iload_n 1, 1) := by decide +kernel
theorem dX2_takesDigitLast_7 : decode cX2_takesDigitLast 7 = .ok (.bipush 69, 2) := by decide +kernel
theorem dX2_takesDigitLast_9 : decode cX2_takesDigitLast 9 = .ok (.if_icmp .ne 7, 3) := by decide +kernel
theorem dX2_takesDigitLast_12 : decode cX2_takesDigitLast 12 = .ok (.iconst 1, 1) := by decide +kernel
theorem dX2_takesDigitLast_13 : decode cX2_takesDigitLast 13 = .ok (.goto 4, 3) := by decide +kernel
theorem dX2_takesDigitLast_16 : decode cX2_takesDigitLast 16 = .ok (.iconst 0, 1) := by decide +kernel
theorem dX2_takesDigitLast_17 : decode cX2_takesDigitLast 17 = .ok (.ireturn, 1) := by decide +kernel
theorem dX2_hasSecond_0 : decode cX2_hasSecond 0 = .ok (.aload_n 0, 1) := by decide +kernel
theorem dX2_hasSecond_1 : decode cX2_hasSecond 1 = .ok (.iload_n 1, 1) := by decide +kernel
theorem dX2_hasSecond_2 : decode cX2_hasSecond 2 = .ok (.invokevirtual 59, 3) := by decide +kernel
theorem dX2_hasSecond_5 : decode cX2_hasSecond 5 = .ok (.ifCond .ne 15, 3) := by decide +kernel
theorem dX2_hasSecond_8 : decode cX2_hasSecond 8 = .ok (.iload_n 1, 1) := by decide +kernel
theorem dX2_hasSecond_9 : decode cX2_hasSecond 9 = .ok (.bipush 77, 2) := by decide +kernel
theorem dX2_hasSecond_11 : decode cX2_hasSecond 11 = .ok (.if_icmp .eq 9, 3) := by decide +kernel
theorem dX2_hasSecond_14 : decode cX2_hasSecond 14 = .ok (.iload_n 1, 1) := by decide +kernel
theorem dX2_hasSecond_15 : decode cX2_hasSecond 15 = .ok (.bipush 83, 2) := by decide +kernel
theorem dX2_hasSecond_17 : decode cX2_hasSecond 17 = .ok (.if_icmp .ne 7, 3) := by decide +kernel
theorem dX2_hasSecond_20 : decode cX2_hasSecond 20 = .ok (.iconst 1, 1) := by decide +kernel
theorem dX2_hasSecond_21 : decode cX2_hasSecond 21 = .ok (.goto 4, 3) := by decide +kernel
theorem dX2_hasSecond_24 : decode cX2_hasSecond 24 = .ok (.iconst 0, 1) := by decide +kernel
theorem dX2_hasSecond_25 : decode cX2_hasSecond 25 = .ok (.ireturn, 1) := by decide +kernel
theorem dX2_isKind_0 : decode cX2_isKind 0 = .ok (.iload_n 1, 1) := by decide +kernel
theorem dX2_isKind_1 : decode cX2_isKind 1 = .ok (.lookupswitch 53 #[(66, 51), (67, 51), (84, 51), (86, 51), (88, 51)], 51) := by decide +kernel
theorem dX2_isKind_52 : decode cX2_isKind 52 = .ok (.iconst 1, 1) := by decide +kernel
theorem dX2_isKind_53 : decode cX2_isKind 53 = .ok (.ireturn, 1) := by decide +kernel
theorem dX2_isKind_54 : decode cX2_isKind 54 = .ok (.aload_n 0, 1) := by decide +kernel
theorem dX2_isKind_55 : decode cX2_isKind 55 = .ok (.iload_n 1, 1) := by decide +kernel
theorem dX2_isKind_56 : decode cX2_isKind 56 = .ok (.invokevirtual 56, 3) := by decide +kernel
theorem dX2_isKind_59 : decode cX2_isKind 59 = .ok (.ireturn, 1) := by decide +kernel
theorem dX2_readDigit_0 : decode cX2_readDigit 0 = .ok (.aload_n 0, 1) := by decide +kernel
theorem dX2_readDigit_1 : decode cX2_readDigit 1 = .ok (.getfield 32, 3) := by decide +kernel
theorem dX2_readDigit_4 : decode cX2_readDigit 4 = .ok (.aload_n 0, 1) := by decide +kernel
theorem dX2_readDigit_5 : decode cX2_readDigit 5 = .ok (.getfield 25, 3) := by decide +kernel
theorem dX2_readDigit_8 : decode cX2_readDigit 8 = .ok (.if_icmp .ge 31, 3) := by decide +kernel
theorem dX2_readDigit_11 : decode cX2_readDigit 11 = .ok (.aload_n 0, 1) := by decide +kernel
theorem dX2_readDigit_12 : decode cX2_readDigit 12 = .ok (.getfield 9, 3) := by decide +kernel
theorem dX2_readDigit_15 : decode cX2_readDigit 15 = .ok (.aload_n 0, 1) := by decide +kernel
theorem dX2_readDigit_16 : decode cX2_readDigit 16 = .ok (.getfield 32, 3) := by decide +kernel
theorem dX2_readDigit_19 : decode cX2_readDigit 19 = .ok (.caload, 1) := by decide +kernel
theorem dX2_readDigit_20 : decode cX2_readDigit 20 = .ok (.bipush 48, 2) := by decide +kernel
theorem dX2_readDigit_22 : decode cX2_readDigit 22 = .ok (.if_icmp .lt 17, 3) := by decide +kernel
theorem dX2_readDigit_25 : decode cX2_readDigit 25 = .ok (.aload_n 0, 1) := by decide +kernel
theorem dX2_readDigit_26 : decode cX2_readDigit 26 = .ok (.getfield 9, 3) := by decide +kernel
theorem dX2_readDigit_29 : decode cX2_readDigit 29 = .ok (.aload_n 0, 1) := by decide +kernel
theorem dX2_readDigit_30 : decode cX2_readDigit 30 = .ok (.getfield 32, 3) := by decide +kernel
theorem dX2_readDigit_33 : decode cX2_readDigit 33 = .ok (.caload, 1) := by decide +kernel
theorem dX2_readDigit_34 : decode cX2_readDigit 34 = .ok (.bipush 57, 2) := by decide +kernel
theorem dX2_readDigit_36 : decode cX2_readDigit 36 = .ok (.if_icmp .le 5, 3) := by decide +kernel
theorem dX2_readDigit_39 : decode cX2_readDigit 39 = .ok (.iconst (-1), 1) := by decide +kernel
theorem dX2_readDigit_40 : decode cX2_readDigit 40 = .ok (.ireturn, 1) := by decide +kernel
theorem dX2_readDigit_41 : decode cX2_readDigit 41 = .ok (.aload_n 0, 1) := by decide +kernel
theorem dX2_readDigit_42 : decode cX2_readDigit 42 = .ok (.getfield 9, 3) := by decide +kernel
theorem dX2_readDigit_45 : decode cX2_readDigit 45 = .ok (.aload_n 0, 1) := by decide +kernel
theorem dX2_readDigit_46 : decode cX2_readDigit 46 = .ok (.getfield 32, 3) := by decide +kernel
theorem dX2_readDigit_49 : decode cX2_readDigit 49 = .ok (.caload, 1) := by decide +kernel
theorem dX2_readDigit_50 : decode cX2_readDigit 50 = .ok (.bipush 48, 2) := by decide +kernel
theorem dX2_readDigit_52 : decode cX2_readDigit 52 = .ok (.isub, 1) := by decide +kernel
theorem dX2_readDigit_53 : decode cX2_readDigit 53 = .ok (.istore_n 1, 1) := by decide +kernel
theorem dX2_readDigit_54 : decode cX2_readDigit 54 = .ok (.aload_n 0, 1) := by decide +kernel
theorem dX2_readDigit_55 : decode cX2_readDigit 55 = .ok (.dup, 1) := by decide +kernel
theorem dX2_readDigit_56 : decode cX2_readDigit 56 = .ok (.getfield 32, 3) := by decide +kernel
theorem dX2_readDigit_59 : decode cX2_readDigit 59 = .ok (.iconst 1, 1) := by decide +kernel
theorem dX2_readDigit_60 : decode cX2_readDigit 60 = .ok (.iadd, 1) := by decide +kernel
theorem dX2_readDigit_61 : decode cX2_readDigit 61 = .ok (.putfield 32, 3) := by decide +kernel
theorem dX2_readDigit_64 : decode cX2_readDigit 64 = .ok (.iload_n 1, 1) := by decide +kernel
theorem dX2_readDigit_65 : decode cX2_readDigit 65 = .ok (.ireturn, 1) := by decide +kernel
theorem dX2_readNumber_0 : decode cX2_readNumber 0 = .ok (.iconst (-1), 1) := by decide +kernel
theorem dX2_readNumber_1 : decode cX2_readNumber 1 = .ok (.istore_n 1, 1) := by decide +kernel
theorem dX2_readNumber_2 : decode cX2_readNumber 2 = .ok (.iconst 0, 1) := by decide +kernel
theorem dX2_readNumber_3 : decode cX2_readNumber 3 = .ok (.istore_n 2, 1) := by decide +kernel
theorem dX2_readNumber_4 : decode cX2_readNumber 4 = .ok (.iload_n 2, 1) := by decide +kernel
theorem dX2_readNumber_5 : decode cX2_readNumber 5 = .ok (.iconst 3, 1) := by decide +kernel
theorem dX2_readNumber_6 : decode cX2_readNumber 6 = .ok (.if_icmp .ge 36, 3) := by decide +kernel
theorem dX2_readNumber_9 : decode cX2_readNumber 9 = .ok (.aload_n 0, 1) := by decide +kernel
theorem dX2_readNumber_10 : decode cX2_readNumber 10 = .ok (.invokevirtual 50, 3) := by decide +kernel
theorem dX2_readNumber_13 : decode cX2_readNumber 13 = .ok (.istore_n 3, 1) := by decide +kernel
theorem dX2_readNumber_14 : decode cX2_readNumber 14 = .ok (.iload_n 3, 1) := by decide +kernel
theorem dX2_readNumber_15 : decode cX2_readNumber 15 = .ok (.iconst (-1), 1) := by decide +kernel
theorem dX2_readNumber_16 : decode cX2_readNumber 16 = .ok (.if_icmp .ne 5, 3) := by decide +kernel
theorem dX2_readNumber_19 : decode cX2_readNumber 19 = .ok (.iload_n 1, 1) := by decide +kernel
theorem dX2_readNumber_20 : decode cX2_readNumber 20 = .ok (.ireturn, 1) := by decide +kernel
theorem dX2_readNumber_21 : decode cX2_readNumber 21 = .ok (.iload_n 2, 1) := by decide +kernel
theorem dX2_readNumber_22 : decode cX2_readNumber 22 = .ok (.ifCond .ne 7, 3) := by decide +kernel
theorem dX2_readNumber_25 : decode cX2_readNumber 25 = .ok (.iload_n 3, 1) := by decide +kernel
theorem dX2_readNumber_26 : decode cX2_readNumber 26 = .ok (.goto 9, 3) := by decide +kernel
theorem dX2_readNumber_29 : decode cX2_readNumber 29 = .ok (.iload_n 1, 1) := by decide +kernel
theorem dX2_readNumber_30 : decode cX2_readNumber 30 = .ok (.bipush 10, 2) := by decide +kernel
theorem dX2_readNumber_32 : decode cX2_readNumber 32 = .ok (.imul, 1) := by decide +kernel
theorem dX2_readNumber_33 : decode cX2_readNumber 33 = .ok (.iload_n 3, 1) := by decide +kernel
theorem dX2_readNumber_34 : decode cX2_readNumber 34 = .ok (.iadd, 1) := by decide +kernel
theorem dX2_readNumber_35 : decode cX2_readNumber 35 = .ok (.istore_n 1, 1) := by decide +kernel
theorem dX2_readNumber_36 : decode cX2_readNumber 36 = .ok (.iinc 2 1, 3) := by decide +kernel
theorem dX2_readNumber_39 : decode cX2_readNumber 39 = .ok (.goto (-35), 3) := by decide +kernel
theorem dX2_readNumber_42 : decode cX2_readNumber 42 = .ok (.iload_n 1, 1) := by decide +kernel
theorem dX2_readNumber_43 : decode cX2_readNumber 43 = .ok (.ireturn, 1) := by decide +kernel
theorem dX2_skip_0 : decode cX2_skip 0 = .ok (.aload_n 0, 1) := by decide +kernel
theorem dX2_skip_1 : decode cX2_skip 1 = .ok (.getfield 32, 3) := by decide +kernel
theorem dX2_skip_4 : decode cX2_skip 4 = .ok (.aload_n 0, 1) := by decide +kernel
theorem dX2_skip_5 : decode cX2_skip 5 = .ok (.getfield 25, 3) := by decide +kernel
theorem dX2_skip_8 : decode cX2_skip 8 = .ok (.if_icmp .ge 16, 3) := by decide +kernel
theorem dX2_skip_11 : decode cX2_skip 11 = .ok (.aload_n 0, 1) := by decide +kernel
theorem dX2_skip_12 : decode cX2_skip 12 = .ok (.getfield 9, 3) := by decide +kernel
theorem dX2_skip_15 : decode cX2_skip 15 = .ok (.aload_n 0, 1) := by decide +kernel
theorem dX2_skip_16 : decode cX2_skip 16 = .ok (.getfield 32, 3) := by decide +kernel
theorem dX2_skip_19 : decode cX2_skip 19 = .ok (.caload, 1) := by decide +kernel
theorem dX2_skip_20 : decode cX2_skip 20 = .ok (.iload_n 1, 1) := by decide +kernel
theorem dX2_skip_21 : decode cX2_skip 21 = .ok (.if_icmp .eq 5, 3) := by decide +kernel
theorem dX2_skip_24 : decode cX2_skip 24 = .ok (.iconst 0, 1) := by decide +kernel
theorem dX2_skip_25 : decode cX2_skip 25 = .ok (.ireturn, 1) := by decide +kernel
theorem dX2_skip_26 : decode cX2_skip 26 = .ok (.aload_n 0, 1) := by decide +kernel
theorem dX2_skip_27 : decode cX2_skip 27 = .ok (.dup, 1) := by decide +kernel
theorem dX2_skip_28 : decode cX2_skip 28 = .ok (.getfield 32, 3) := by decide +kernel
theorem dX2_skip_31 : decode cX2_skip 31 = .ok (.iconst 1, 1) := by decide +kernel
theorem dX2_skip_32 : decode cX2_skip 32 = .ok (.iadd, 1) := by decide +kernel
theorem dX2_skip_33 : decode cX2_skip 33 = .ok (.putfield 32, 3) := by decide +kernel
theorem dX2_skip_36 : decode cX2_skip 36 = .ok (.iconst 1, 1) := by decide +kernel
theorem dX2_skip_37 : decode cX2_skip 37 = .ok (.ireturn, 1) := by decide +kernel
theorem dX2_readCommand_0 : decode cX2_readCommand 0 = .ok (.aload_n 0, 1) := by decide +kernel
theorem dX2_readCommand_1 : decode cX2_readCommand 1 = .ok (.getfield 32, 3) := by decide +kernel
theorem dX2_readCommand_4 : decode cX2_readCommand 4 = .ok (.aload_n 0, 1) := by decide +kernel
theorem dX2_readCommand_5 : decode cX2_readCommand 5 = .ok (.getfield 25, 3) := by decide +kernel
theorem dX2_readCommand_8 : decode cX2_readCommand 8 = .ok (.if_icmp .ge 19, 3) := by decide +kernel
theorem dX2_readCommand_11 : decode cX2_readCommand 11 = .ok (.aload_n 0, 1) := by decide +kernel
theorem dX2_readCommand_12 : decode cX2_readCommand 12 = .ok (.aload_n 0, 1) := by decide +kernel
theorem dX2_readCommand_13 : decode cX2_readCommand 13 = .ok (.getfield 9, 3) := by decide +kernel
theorem dX2_readCommand_16 : decode cX2_readCommand 16 = .ok (.aload_n 0, 1) := by decide +kernel
theorem dX2_readCommand_17 : decode cX2_readCommand 17 = .ok (.getfield 32, 3) := by decide +kernel
theorem dX2_readCommand_20 : decode cX2_readCommand 20 = .ok (.caload, 1) := by decide +kernel
theorem dX2_readCommand_21 : decode cX2_readCommand 21 = .ok (.invokevirtual 47, 3) := by decide +kernel
theorem dX2_readCommand_24 : decode cX2_readCommand 24 = .ok (.ifCond .ne 5, 3) := by decide +kernel
theorem dX2_readCommand_27 : decode cX2_readCommand 27 = .ok (.iconst 0, 1) := by decide +kernel
theorem dX2_readCommand_28 : decode cX2_readCommand 28 = .ok (.ireturn, 1) := by decide +kernel
theorem dX2_readCommand_29 : decode cX2_readCommand 29 = .ok (.aload_n 0, 1) := by decide +kernel
theorem dX2_readCommand_30 : decode cX2_readCommand 30 = .ok (.getfield 9, 3) := by decide +kernel
theorem dX2_readCommand_33 : decode cX2_readCommand 33 = .ok (.aload_n 0, 1) := by decide +kernel
theorem dX2_readCommand_34 : decode cX2_readCommand 34 = .ok (.getfield 32, 3) := by decide +kernel
theorem dX2_readCommand_37 : decode cX2_readCommand 37 = .ok (.caload, 1) := by decide +kernel
theorem dX2_readCommand_38 : decode cX2_readCommand 38 = .ok (.istore_n 2, 1) := by decide +kernel
theorem dX2_readCommand_39 : decode cX2_readCommand 39 = .ok (.aload_n 0, 1) := by decide +kernel
theorem dX2_readCommand_40 : decode cX2_readCommand 40 = .ok (.dup, 1) := by decide +kernel
theorem dX2_readCommand_41 : decode cX2_readCommand 41 = .ok (.getfield 32, 3) := by decide +kernel
theorem dX2_readCommand_44 : decode cX2_readCommand 44 = .ok (.iconst 1, 1) := by decide +kernel
theorem dX2_readCommand_45 : decode cX2_readCommand 45 = .ok (.iadd, 1) := by decide +kernel
theorem dX2_readCommand_46 : decode cX2_readCommand 46 = .ok (.putfield 32, 3) := by decide +kernel
theorem dX2_readCommand_49 : decode cX2_readCommand 49 = .ok (.iload_n 2, 1) := by decide +kernel
theorem dX2_readCommand_50 : decode cX2_readCommand 50 = .ok (.bipush 86, 2) := by decide +kernel
theorem dX2_readCommand_52 : decode cX2_readCommand 52 = .ok (.if_icmp .ne 10, 3) := by decide +kernel
theorem dX2_readCommand_55 : decode cX2_readCommand 55 = .ok (.aload_n 0, 1) := by decide +kernel
theorem dX2_readCommand_56 : decode cX2_readCommand 56 = .ok (.invokevirtual 50, 3) := by decide +kernel
theorem dX2_readCommand_59 : decode cX2_readCommand 59 = .ok (.goto 7, 3) := by decide +kernel
theorem dX2_readCommand_62 : decode cX2_readCommand 62 = .ok (.aload_n 0, 1) := by decide +kernel
theorem dX2_readCommand_63 : decode cX2_readCommand 63 = .ok (.invokevirtual 53, 3) := by decide +kernel
theorem dX2_readCommand_66 : decode cX2_readCommand 66 = .ok (.istore_n 3, 1) := by decide +kernel
theorem dX2_readCommand_67 : decode cX2_readCommand 67 = .ok (.iload_n 3, 1) := by decide +kernel
theorem dX2_readCommand_68 : decode cX2_readCommand 68 = .ok (.iconst (-1), 1) := by decide +kernel
theorem dX2_readCommand_69 : decode cX2_readCommand 69 = .ok (.if_icmp .ne 5, 3) := by decide +kernel
theorem dX2_readCommand_72 : decode cX2_readCommand 72 = .ok (.iconst 0, 1) := by decide +kernel
theorem dX2_readCommand_73 : decode cX2_readCommand 73 = .ok (.ireturn, 1) := by decide +kernel
theorem dX2_readCommand_74 : decode cX2_readCommand 74 = .ok (.iconst 0, 1) := by decide +kernel
theorem dX2_readCommand_75 : decode cX2_readCommand 75 = .ok (.istore 4, 2) := by decide +kernel
theorem dX2_readCommand_77 : decode cX2_readCommand 77 = .ok (.aload_n 0, 1) := by decide +kernel
theorem dX2_readCommand_78 : decode cX2_readCommand 78 = .ok (.iload_n 2, 1) := by decide +kernel
theorem dX2_readCommand_79 : decode cX2_readCommand 79 = .ok (.invokevirtual 56, 3) := by decide +kernel
theorem dX2_readCommand_82 : decode cX2_readCommand 82 = .ok (.ifCond .eq 54, 3) := by decide +kernel
theorem dX2_readCommand_85 : decode cX2_readCommand 85 = .ok (.aload_n 0, 1) := by decide +kernel
theorem dX2_readCommand_86 : decode cX2_readCommand 86 = .ok (.iload_n 2, 1) := by decide +kernel
theorem dX2_readCommand_87 : decode cX2_readCommand 87 = .ok (.bipush 83, 2) := by decide +kernel
theorem dX2_readCommand_89 : decode cX2_readCommand 89 = .ok (.if_icmp .ne 8, 3) := by decide +kernel
theorem dX2_readCommand_92 : decode cX2_readCommand 92 = .ok (.bipush 44, 2) := by decide +kernel
theorem dX2_readCommand_94 : decode cX2_readCommand 94 = .ok (.goto 5, 3) := by decide +kernel
theorem dX2_readCommand_97 : decode cX2_readCommand 97 = .ok (.bipush 58, 2) := by decide +kernel
theorem dX2_readCommand_99 : decode cX2_readCommand 99 = .ok (.invokevirtual 43, 3) := by decide +kernel
theorem dX2_readCommand_102 : decode cX2_readCommand 102 = .ok (.ifCond .ne 5, 3) := by decide +kernel
theorem dX2_readCommand_105 : decode cX2_readCommand 105 = .ok (.iconst 0, 1) := by decide +kernel
theorem dX2_readCommand_106 : decode cX2_readCommand 106 = .ok (.ireturn, 1) := by decide +kernel
theorem dX2_readCommand_107 : decode cX2_readCommand 107 = .ok (.aload_n 0, 1) := by decide +kernel
theorem dX2_readCommand_108 : decode cX2_readCommand 108 = .ok (.iload_n 2, 1) := by decide +kernel
theorem dX2_readCommand_109 : decode cX2_readCommand 109 = .ok (.invokevirtual 59, 3) := by decide +kernel
theorem dX2_readCommand_112 : decode cX2_readCommand 112 = .ok (.ifCond .eq 10, 3) := by decide +kernel
theorem dX2_readCommand_115 : decode cX2_readCommand 115 = .ok (.aload_n 0, 1) := by decide +kernel
theorem dX2_readCommand_116 : decode cX2_readCommand 116 = .ok (.invokevirtual 50, 3) := by decide +kernel
theorem dX2_readCommand_119 : decode cX2_readCommand 119 = .ok (.goto 7, 3) := by decide +kernel
theorem dX2_readCommand_122 : decode cX2_readCommand 122 = .ok (.aload_n 0, 1) := by decide +kernel
theorem dX2_readCommand_123 : decode cX2_readCommand 123 = .ok (.invokevirtual 53, 3) := by decide +kernel
theorem dX2_readCommand_126 : decode cX2_readCommand 126 = .ok (.istore 4, 2) := by decide +kernel
theorem dX2_readCommand_128 : decode cX2_readCommand 128 = .ok (.iload 4, 2) := by decide +kernel
theorem dX2_readCommand_130 : decode cX2_readCommand 130 = .ok (.iconst (-1), 1) := by decide +kernel
theorem dX2_readCommand_131 : decode cX2_readCommand 131 = .ok (.if_icmp .ne 5, 3) := by decide +kernel
theorem dX2_readCommand_134 : decode cX2_readCommand 134 = .ok (.iconst 0, 1) := by decide +kernel
theorem dX2_readCommand_135 : decode cX2_readCommand 135 = .ok (.ireturn, 1) := by decide +kernel
theorem dX2_readCommand_136 : decode cX2_readCommand 136 = .ok (.aload_n 0, 1) := by decide +kernel
theorem dX2_readCommand_137 : decode cX2_readCommand 137 = .ok (.getfield 15, 3) := by decide +kernel
theorem dX2_readCommand_140 : decode cX2_readCommand 140 = .ok (.iload_n 1, 1) := by decide +kernel
theorem dX2_readCommand_141 : decode cX2_readCommand 141 = .ok (.iload_n 2, 1) := by decide +kernel
theorem dX2_readCommand_142 : decode cX2_readCommand 142 = .ok (.castore, 1) := by decide +kernel
theorem dX2_readCommand_143 : decode cX2_readCommand 143 = .ok (.aload_n 0, 1) := by decide +kernel
theorem dX2_readCommand_144 : decode cX2_readCommand 144 = .ok (.getfield 18, 3) := by decide +kernel
theorem dX2_readCommand_147 : decode cX2_readCommand 147 = .ok (.iload_n 1, 1) := by decide +kernel
theorem dX2_readCommand_148 : decode cX2_readCommand 148 = .ok (.iload_n 3, 1) := by decide +kernel
theorem dX2_readCommand_149 : decode cX2_readCommand 149 = .ok (.iastore, 1) := by decide +kernel
theorem dX2_readCommand_150 : decode cX2_readCommand 150 = .ok (.aload_n 0, 1) := by decide +kernel
theorem dX2_readCommand_151 : decode cX2_readCommand 151 = .ok (.getfield 22, 3) := by decide +kernel
theorem dX2_readCommand_154 : decode cX2_readCommand 154 = .ok (.iload_n 1, 1) := by decide +kernel
theorem dX2_readCommand_155 : decode cX2_readCommand 155 = .ok (.iload 4, 2) := by decide +kernel
theorem dX2_readCommand_157 : decode cX2_readCommand 157 = .ok (.iastore, 1) := by decide +kernel
theorem dX2_readCommand_158 : decode cX2_readCommand 158 = .ok (.iconst 1, 1) := by decide +kernel
theorem dX2_readCommand_159 : decode cX2_readCommand 159 = .ok (.ireturn, 1) := by decide +kernel
theorem dX2_readCommands_0 : decode cX2_readCommands 0 = .ok (.aload_n 0, 1) := by decide +kernel
theorem dX2_readCommands_1 : decode cX2_readCommands 1 = .ok (.iconst 0, 1) := by decide +kernel
theorem dX2_readCommands_2 : decode cX2_readCommands 2 = .ok (.putfield 32, 3) := by decide +kernel
theorem dX2_readCommands_5 : decode cX2_readCommands 5 = .ok (.aload_n 0, 1) := by decide +kernel
theorem dX2_readCommands_6 : decode cX2_readCommands 6 = .ok (.iconst 0, 1) := by decide +kernel
theorem dX2_readCommands_7 : decode cX2_readCommands 7 = .ok (.putfield 29, 3) := by decide +kernel
theorem dX2_readCommands_10 : decode cX2_readCommands 10 = .ok (.iconst 0, 1) := by decide +kernel
theorem dX2_readCommands_11 : decode cX2_readCommands 11 = .ok (.istore_n 1, 1) := by decide +kernel
theorem dX2_readCommands_12 : decode cX2_readCommands 12 = .ok (.iload_n 1, 1) := by decide +kernel
theorem dX2_readCommands_13 : decode cX2_readCommands 13 = .ok (.bipush 30, 2) := by decide +kernel
theorem dX2_readCommands_15 : decode cX2_readCommands 15 = .ok (.if_icmp .ge 59, 3) := by decide +kernel
theorem dX2_readCommands_18 : decode cX2_readCommands 18 = .ok (.aload_n 0, 1) := by decide +kernel
theorem dX2_readCommands_19 : decode cX2_readCommands 19 = .ok (.iload_n 1, 1) := by decide +kernel
theorem dX2_readCommands_20 : decode cX2_readCommands 20 = .ok (.invokevirtual 39, 3) := by decide +kernel
theorem dX2_readCommands_23 : decode cX2_readCommands 23 = .ok (.ifCond .ne 8, 3) := by decide +kernel
theorem dX2_readCommands_26 : decode cX2_readCommands 26 = .ok (.aload_n 0, 1) := by decide +kernel
theorem dX2_readCommands_27 : decode cX2_readCommands 27 = .ok (.getfield 32, 3) := by decide +kernel
theorem dX2_readCommands_30 : decode cX2_readCommands 30 = .ok (.ireturn, 1) := by decide +kernel
theorem dX2_readCommands_31 : decode cX2_readCommands 31 = .ok (.aload_n 0, 1) := by decide +kernel
theorem dX2_readCommands_32 : decode cX2_readCommands 32 = .ok (.dup, 1) := by decide +kernel
theorem dX2_readCommands_33 : decode cX2_readCommands 33 = .ok (.getfield 29, 3) := by decide +kernel
theorem dX2_readCommands_36 : decode cX2_readCommands 36 = .ok (.iconst 1, 1) := by decide +kernel
theorem dX2_readCommands_37 : decode cX2_readCommands 37 = .ok (.iadd, 1) := by decide +kernel
theorem dX2_readCommands_38 : decode cX2_readCommands 38 = .ok (.putfield 29, 3) := by decide +kernel
theorem dX2_readCommands_41 : decode cX2_readCommands 41 = .ok (.aload_n 0, 1) := by decide +kernel
theorem dX2_readCommands_42 : decode cX2_readCommands 42 = .ok (.getfield 32, 3) := by decide +kernel
theorem dX2_readCommands_45 : decode cX2_readCommands 45 = .ok (.aload_n 0, 1) := by decide +kernel
theorem dX2_readCommands_46 : decode cX2_readCommands 46 = .ok (.getfield 25, 3) := by decide +kernel
theorem dX2_readCommands_49 : decode cX2_readCommands 49 = .ok (.if_icmp .ne 5, 3) := by decide +kernel
theorem dX2_readCommands_52 : decode cX2_readCommands 52 = .ok (.iconst (-1), 1) := by decide +kernel
theorem dX2_readCommands_53 : decode cX2_readCommands 53 = .ok (.ireturn, 1) := by decide +kernel
theorem dX2_readCommands_54 : decode cX2_readCommands 54 = .ok (.aload_n 0, 1) := by decide +kernel
theorem dX2_readCommands_55 : decode cX2_readCommands 55 = .ok (.bipush 59, 2) := by decide +kernel
theorem dX2_readCommands_57 : decode cX2_readCommands 57 = .ok (.invokevirtual 43, 3) := by decide +kernel
theorem dX2_readCommands_60 : decode cX2_readCommands 60 = .ok (.ifCond .ne 8, 3) := by decide +kernel
theorem dX2_readCommands_63 : decode cX2_readCommands 63 = .ok (.aload_n 0, 1) := by decide +kernel
theorem dX2_readCommands_64 : decode cX2_readCommands 64 = .ok (.getfield 32, 3) := by decide +kernel
theorem dX2_readCommands_67 : decode cX2_readCommands 67 = .ok (.ireturn, 1) := by decide +kernel
theorem dX2_readCommands_68 : decode cX2_readCommands 68 = .ok (.iinc 1 1, 3) := by decide +kernel
theorem dX2_readCommands_71 : decode cX2_readCommands 71 = .ok (.goto (-59), 3) := by decide +kernel
theorem dX2_readCommands_74 : decode cX2_readCommands 74 = .ok (.aload_n 0, 1) := by decide +kernel
theorem dX2_readCommands_75 : decode cX2_readCommands 75 = .ok (.getfield 32, 3) := by decide +kernel
theorem dX2_readCommands_78 : decode cX2_readCommands 78 = .ok (.ireturn, 1) := by decide +kernel
theorem dX2_takeCommands_0 : decode cX2_takeCommands 0 = .ok (.aload_n 0, 1) := by decide +kernel
theorem dX2_takeCommands_1 : decode cX2_takeCommands 1 = .ok (.invokevirtual 35, 3) := by decide +kernel
theorem dX2_takeCommands_4 : decode cX2_takeCommands 4 = .ok (.istore_n 1, 1) := by decide +kernel
theorem dX2_takeCommands_5 : decode cX2_takeCommands 5 = .ok (.aload_n 0, 1) := by decide +kernel
theorem dX2_takeCommands_6 : decode cX2_takeCommands 6 = .ok (.iconst 0, 1) := by decide +kernel
theorem dX2_takeCommands_7 : decode cX2_takeCommands 7 = .ok (.putfield 25, 3) := by decide +kernel
theorem dX2_takeCommands_10 : decode cX2_takeCommands 10 = .ok (.iload_n 1, 1) := by decide +kernel
theorem dX2_takeCommands_11 : decode cX2_takeCommands 11 = .ok (.ireturn, 1) := by decide +kernel
theorem dX4_thrown_0 : decode cX4_thrown 0 = .ok (.aload_n 0, 1) := by decide +kernel
theorem dX4_thrown_1 : decode cX4_thrown 1 = .ok (.getfield 27, 3) := by decide +kernel
theorem dX4_thrown_4 : decode cX4_thrown 4 = .ok (.ireturn, 1) := by decide +kernel
theorem dX4_in_0 : decode cX4_in 0 = .ok (.iload_n 0, 1) := by decide +kernel
theorem dX4_in_1 : decode cX4_in 1 = .ok (.iload_n 1, 1) := by decide +kernel
theorem dX4_in_2 : decode cX4_in 2 = .ok (.if_icmp .lt 12, 3) := by decide +kernel
theorem dX4_in_5 : decode cX4_in 5 = .ok (.iload_n 0, 1) := by decide +kernel
theorem dX4_in_6 : decode cX4_in 6 = .ok (.iload_n 2, 1) := by decide +kernel
theorem dX4_in_7 : decode cX4_in 7 = .ok (.if_icmp .gt 7, 3) := by decide +kernel
theorem dX4_in_10 : decode cX4_in 10 = .ok (.iconst 1, 1) := by decide +kernel
theorem dX4_in_11 : decode cX4_in 11 = .ok (.goto 4, 3) := by decide +kernel
theorem dX4_in_14 : decode cX4_in 14 = .ok (.iconst 0, 1) := by decide +kernel
theorem dX4_in_15 : decode cX4_in 15 = .ok (.ireturn, 1) := by decide +kernel
theorem dX4_copies_0 : decode cX4_copies 0 = .ok (.iconst 0, 1) := by decide +kernel
theorem dX4_copies_1 : decode cX4_copies 1 = .ok (.istore_n 3, 1) := by decide +kernel
theorem dX4_copies_2 : decode cX4_copies 2 = .ok (.iload_n 3, 1) := by decide +kernel
theorem dX4_copies_3 : decode cX4_copies 3 = .ok (.bipush 75, 2) := by decide +kernel
theorem dX4_copies_5 : decode cX4_copies 5 = .ok (.if_icmp .ge 31, 3) := by decide +kernel
theorem dX4_copies_8 : decode cX4_copies 8 = .ok (.aload_n 0, 1) := by decide +kernel
theorem dX4_copies_9 : decode cX4_copies 9 = .ok (.getfield 9, 3) := by decide +kernel
theorem dX4_copies_12 : decode cX4_copies 12 = .ok (.bipush 75, 2) := by decide +kernel
theorem dX4_copies_14 : decode cX4_copies 14 = .ok (.iload_n 2, 1) := by decide +kernel
theorem dX4_copies_15 : decode cX4_copies 15 = .ok (.imul, 1) := by decide +kernel
theorem dX4_copies_16 : decode cX4_copies 16 = .ok (.iload_n 3, 1) := by decide +kernel
theorem dX4_copies_17 : decode cX4_copies 17 = .ok (.iadd, 1) := by decide +kernel
theorem dX4_copies_18 : decode cX4_copies 18 = .ok (.aload_n 0, 1) := by decide +kernel
theorem dX4_copies_19 : decode cX4_copies 19 = .ok (.getfield 9, 3) := by decide +kernel
theorem dX4_copies_22 : decode cX4_copies 22 = .ok (.bipush 75, 2) := by decide +kernel
theorem dX4_copies_24 : decode cX4_copies 24 = .ok (.iload_n 1, 1) := by decide +kernel
theorem dX4_copies_25 : decode cX4_copies 25 = .ok (.imul, 1) := by decide +kernel
theorem dX4_copies_26 : decode cX4_copies 26 = .ok (.iload_n 3, 1) := by decide +kernel
theorem dX4_copies_27 : decode cX4_copies 27 = .ok (.iadd, 1) := by decide +kernel
theorem dX4_copies_28 : decode cX4_copies 28 = .ok (.iaload, 1) := by decide +kernel
theorem dX4_copies_29 : decode cX4_copies 29 = .ok (.iastore, 1) := by decide +kernel
theorem dX4_copies_30 : decode cX4_copies 30 = .ok (.iinc 3 1, 3) := by decide +kernel
theorem dX4_copies_33 : decode cX4_copies 33 = .ok (.goto (-31), 3) := by decide +kernel
theorem dX4_copies_36 : decode cX4_copies 36 = .ok (.return_, 1) := by decide +kernel
theorem dX4_begins_0 : decode cX4_begins 0 = .ok (.aload_n 0, 1) := by decide +kernel
theorem dX4_begins_1 : decode cX4_begins 1 = .ok (.iconst 0, 1) := by decide +kernel
theorem dX4_begins_2 : decode cX4_begins 2 = .ok (.bipush 10, 2) := by decide +kernel
theorem dX4_begins_4 : decode cX4_begins 4 = .ok (.invokevirtual 30, 3) := by decide +kernel
theorem dX4_begins_7 : decode cX4_begins 7 = .ok (.return_, 1) := by decide +kernel
theorem dX4_ends_0 : decode cX4_ends 0 = .ok (.aload_n 0, 1) := by decide +kernel
theorem dX4_ends_1 : decode cX4_ends 1 = .ok (.iload_n 1, 1) := by decide +kernel
theorem dX4_ends_2 : decode cX4_ends 2 = .ok (.iconst 1, 1) := by decide +kernel
theorem dX4_ends_3 : decode cX4_ends 3 = .ok (.if_icmp .ne 7, 3) := by decide +kernel
theorem dX4_ends_6 : decode cX4_ends 6 = .ok (.iload_n 2, 1) := by decide +kernel
theorem dX4_ends_7 : decode cX4_ends 7 = .ok (.goto 23, 3) := by decide +kernel
theorem dX4_ends_10 : decode cX4_ends 10 = .ok (.iload_n 1, 1) := by decide +kernel
theorem dX4_ends_11 : decode cX4_ends 11 = .ok (.iconst 2, 1) := by decide +kernel
theorem dX4_ends_12 : decode cX4_ends 12 = .ok (.if_icmp .ne 7, 3) := by decide +kernel
theorem dX4_ends_15 : decode cX4_ends 15 = .ok (.iload_n 3, 1) := by decide +kernel
theorem dX4_ends_16 : decode cX4_ends 16 = .ok (.goto 14, 3) := by decide +kernel
theorem dX4_ends_19 : decode cX4_ends 19 = .ok (.iload_n 1, 1) := by decide +kernel
theorem dX4_ends_20 : decode cX4_ends 20 = .ok (.iconst 3, 1) := by decide +kernel
theorem dX4_ends_21 : decode cX4_ends 21 = .ok (.if_icmp .ne 8, 3) := by decide +kernel
theorem dX4_ends_24 : decode cX4_ends 24 = .ok (.iload 4, 2) := by decide +kernel
theorem dX4_ends_26 : decode cX4_ends 26 = .ok (.goto 4, 3) := by decide +kernel
theorem dX4_ends_29 : decode cX4_ends 29 = .ok (.iconst 0, 1) := by decide +kernel
theorem dX4_ends_30 : decode cX4_ends 30 = .ok (.putfield 27, 3) := by decide +kernel
theorem dX4_ends_33 : decode cX4_ends 33 = .ok (.aload_n 0, 1) := by decide +kernel
theorem dX4_ends_34 : decode cX4_ends 34 = .ok (.getfield 27, 3) := by decide +kernel
theorem dX4_ends_37 : decode cX4_ends 37 = .ok (.ifCond .eq 12, 3) := by decide +kernel
theorem dX4_ends_40 : decode cX4_ends 40 = .ok (.aload_n 0, 1) := by decide +kernel
theorem dX4_ends_41 : decode cX4_ends 41 = .ok (.bipush 10, 2) := by decide +kernel
theorem dX4_ends_43 : decode cX4_ends 43 = .ok (.iconst 0, 1) := by decide +kernel
theorem dX4_ends_44 : decode cX4_ends 44 = .ok (.invokevirtual 30, 3) := by decide +kernel
theorem dX4_ends_47 : decode cX4_ends 47 = .ok (.iconst 0, 1) := by decide +kernel
theorem dX4_ends_48 : decode cX4_ends 48 = .ok (.ireturn, 1) := by decide +kernel
theorem dX4_ends_49 : decode cX4_ends 49 = .ok (.aload_n 0, 1) := by decide +kernel
theorem dX4_ends_50 : decode cX4_ends 50 = .ok (.getfield 34, 3) := by decide +kernel
theorem dX4_ends_53 : decode cX4_ends 53 = .ok (.bipush 8, 2) := by decide +kernel
theorem dX4_ends_55 : decode cX4_ends 55 = .ok (.if_icmp .ne 39, 3) := by decide +kernel
theorem dX4_ends_58 : decode cX4_ends 58 = .ok (.iconst 1, 1) := by decide +kernel
theorem dX4_ends_59 : decode cX4_ends 59 = .ok (.istore 5, 2) := by decide +kernel
theorem dX4_ends_61 : decode cX4_ends 61 = .ok (.iload 5, 2) := by decide +kernel
theorem dX4_ends_63 : decode cX4_ends 63 = .ok (.bipush 8, 2) := by decide +kernel
theorem dX4_ends_65 : decode cX4_ends 65 = .ok (.if_icmp .ge 19, 3) := by decide +kernel
theorem dX4_ends_68 : decode cX4_ends 68 = .ok (.aload_n 0, 1) := by decide +kernel
theorem dX4_ends_69 : decode cX4_ends 69 = .ok (.iload 5, 2) := by decide +kernel
theorem dX4_ends_71 : decode cX4_ends 71 = .ok (.iconst 1, 1) := by decide +kernel
theorem dX4_ends_72 : decode cX4_ends 72 = .ok (.iadd, 1) := by decide +kernel
theorem dX4_ends_73 : decode cX4_ends 73 = .ok (.iload 5, 2) := by decide +kernel
theorem dX4_ends_75 : decode cX4_ends 75 = .ok (.invokevirtual 30, 3) := by decide +kernel
theorem dX4_ends_78 : decode cX4_ends 78 = .ok (.iinc 5 1, 3) := by decide +kernel
theorem dX4_ends_81 : decode cX4_ends 81 = .ok (.goto (-20), 3) := by decide +kernel
theorem dX4_ends_84 : decode cX4_ends 84 = .ok (.aload_n 0, 1) := by decide +kernel
theorem dX4_ends_85 : decode cX4_ends 85 = .ok (.dup, 1) := by decide +kernel
theorem dX4_ends_86 : decode cX4_ends 86 = .ok (.getfield 34, 3) := by decide +kernel
theorem dX4_ends_89 : decode cX4_ends 89 = .ok (.iconst 1, 1) := by decide +kernel
theorem dX4_ends_90 : decode cX4_ends 90 = .ok (.isub, 1) := by decide +kernel
theorem dX4_ends_91 : decode cX4_ends 91 = .ok (.putfield 34, 3) := by decide +kernel
theorem dX4_ends_94 : decode cX4_ends 94 = .ok (.aload_n 0, 1) := by decide +kernel
theorem dX4_ends_95 : decode cX4_ends 95 = .ok (.dup, 1) := by decide +kernel
theorem dX4_ends_96 : decode cX4_ends 96 = .ok (.getfield 34, 3) := by decide +kernel
theorem dX4_ends_99 : decode cX4_ends 99 = .ok (.iconst 1, 1) := by decide +kernel
theorem dX4_ends_100 : decode cX4_ends 100 = .ok (.iadd, 1) := by decide +kernel
theorem dX4_ends_101 : decode cX4_ends 101 = .ok (.putfield 34, 3) := by decide +kernel
theorem dX4_ends_104 : decode cX4_ends 104 = .ok (.aload_n 0, 1) := by decide +kernel
theorem dX4_ends_105 : decode cX4_ends 105 = .ok (.bipush 10, 2) := by decide +kernel
theorem dX4_ends_107 : decode cX4_ends 107 = .ok (.aload_n 0, 1) := by decide +kernel
theorem dX4_ends_108 : decode cX4_ends 108 = .ok (.getfield 34, 3) := by decide +kernel
theorem dX4_ends_111 : decode cX4_ends 111 = .ok (.invokevirtual 30, 3) := by decide +kernel
theorem dX4_ends_114 : decode cX4_ends 114 = .ok (.aload_n 0, 1) := by decide +kernel
theorem dX4_ends_115 : decode cX4_ends 115 = .ok (.getfield 37, 3) := by decide +kernel
theorem dX4_ends_118 : decode cX4_ends 118 = .ok (.ireturn, 1) := by decide +kernel
theorem dX4_isFine_0 : decode cX4_isFine 0 = .ok (.aload_n 0, 1) := by decide +kernel
theorem dX4_isFine_1 : decode cX4_isFine 1 = .ok (.iload_n 1, 1) := by decide +kernel
theorem dX4_isFine_2 : decode cX4_isFine 2 = .ok (.ifCond .eq 7, 3) := by decide +kernel
theorem dX4_isFine_5 : decode cX4_isFine 5 = .ok (.iconst 0, 1) := by decide +kernel
theorem dX4_isFine_6 : decode cX4_isFine 6 = .ok (.goto 4, 3) := by decide +kernel
theorem dX4_isFine_9 : decode cX4_isFine 9 = .ok (.iconst 1, 1) := by decide +kernel
theorem dX4_isFine_10 : decode cX4_isFine 10 = .ok (.putfield 27, 3) := by decide +kernel
theorem dX4_isFine_13 : decode cX4_isFine 13 = .ok (.iload_n 1, 1) := by decide +kernel
theorem dX4_isFine_14 : decode cX4_isFine 14 = .ok (.ireturn, 1) := by decide +kernel
theorem dX4_rejects_0 : decode cX4_rejects 0 = .ok (.iload_n 1, 1) := by decide +kernel
theorem dX4_rejects_1 : decode cX4_rejects 1 = .ok (.ifCond .eq 18, 3) := by decide +kernel
theorem dX4_rejects_4 : decode cX4_rejects 4 = .ok (.aload_n 0, 1) := by decide +kernel
theorem dX4_rejects_5 : decode cX4_rejects 5 = .ok (.iload_n 2, 1) := by decide +kernel
theorem dX4_rejects_6 : decode cX4_rejects 6 = .ok (.putfield 40, 3) := by decide +kernel
theorem dX4_rejects_9 : decode cX4_rejects 9 = .ok (.aload_n 0, 1) := by decide +kernel
theorem dX4_rejects_10 : decode cX4_rejects 10 = .ok (.iload_n 3, 1) := by decide +kernel
theorem dX4_rejects_11 : decode cX4_rejects 11 = .ok (.putfield 43, 3) := by decide +kernel
theorem dX4_rejects_14 : decode cX4_rejects 14 = .ok (.aload_n 0, 1) := by decide +kernel
theorem dX4_rejects_15 : decode cX4_rejects 15 = .ok (.iconst 0, 1) := by decide +kernel
theorem dX4_rejects_16 : decode cX4_rejects 16 = .ok (.putfield 46, 3) := by decide +kernel
theorem dX4_rejects_19 : decode cX4_rejects 19 = .ok (.iload_n 1, 1) := by decide +kernel
theorem dX4_rejects_20 : decode cX4_rejects 20 = .ok (.ireturn, 1) := by decide +kernel
theorem dX4_rejectionReason_0 : decode cX4_rejectionReason 0 = .ok (.aload_n 0, 1) := by decide +kernel
theorem dX4_rejectionReason_1 : decode cX4_rejectionReason 1 = .ok (.aload_n 0, 1) := by decide +kernel
theorem dX4_rejectionReason_2 : decode cX4_rejectionReason 2 = .ok (.getfield 40, 3) := by decide +kernel
theorem dX4_rejectionReason_5 : decode cX4_rejectionReason 5 = .ok (.ifCond .eq 7, 3) := by decide +kernel
theorem dX4_rejectionReason_8 : decode cX4_rejectionReason 8 = .ok (.iconst 1, 1) := by decide +kernel
theorem dX4_rejectionReason_9 : decode cX4_rejectionReason 9 = .ok (.goto 4, 3) := by decide +kernel
theorem dX4_rejectionReason_12 : decode cX4_rejectionReason 12 = .ok (.iconst 0, 1) := by decide +kernel
theorem dX4_rejectionReason_13 : decode cX4_rejectionReason 13 = .ok (.invokevirtual 49, 3) := by decide +kernel
theorem dX4_rejectionReason_16 : decode cX4_rejectionReason 16 = .ok (.ifCond .eq 10, 3) := by decide +kernel
theorem dX4_rejectionReason_19 : decode cX4_rejectionReason 19 = .ok (.aload_n 0, 1) := by decide +kernel
theorem dX4_rejectionReason_20 : decode cX4_rejectionReason 20 = .ok (.getfield 40, 3) := by decide +kernel
theorem dX4_rejectionReason_23 : decode cX4_rejectionReason 23 = .ok (.goto 4, 3) := by decide +kernel
theorem dX4_rejectionReason_26 : decode cX4_rejectionReason 26 = .ok (.iconst 0, 1) := by decide +kernel
theorem dX4_rejectionReason_27 : decode cX4_rejectionReason 27 = .ok (.ireturn, 1) := by decide +kernel
theorem dX4_rejectionDetail_0 : decode cX4_rejectionDetail 0 = .ok (.aload_n 0, 1) := by decide +kernel
theorem dX4_rejectionDetail_1 : decode cX4_rejectionDetail 1 = .ok (.aload_n 0, 1) := by decide +kernel
theorem dX4_rejectionDetail_2 : decode cX4_rejectionDetail 2 = .ok (.getfield 40, 3) := by decide +kernel
theorem dX4_rejectionDetail_5 : decode cX4_rejectionDetail 5 = .ok (.ifCond .eq 7, 3) := by decide +kernel
theorem dX4_rejectionDetail_8 : decode cX4_rejectionDetail 8 = .ok (.iconst 1, 1) := by decide +kernel
theorem dX4_rejectionDetail_9 : decode cX4_rejectionDetail 9 = .ok (.goto 4, 3) := by decide +kernel
theorem dX4_rejectionDetail_12 : decode cX4_rejectionDetail 12 = .ok (.iconst 0, 1) := by decide +kernel
theorem dX4_rejectionDetail_13 : decode cX4_rejectionDetail 13 = .ok (.invokevirtual 49, 3) := by decide +kernel
theorem dX4_rejectionDetail_16 : decode cX4_rejectionDetail 16 = .ok (.ifCond .eq 10, 3) := by decide +kernel
theorem dX4_rejectionDetail_19 : decode cX4_rejectionDetail 19 = .ok (.aload_n 0, 1) := by decide +kernel
theorem dX4_rejectionDetail_20 : decode cX4_rejectionDetail 20 = .ok (.getfield 43, 3) := by decide +kernel
theorem dX4_rejectionDetail_23 : decode cX4_rejectionDetail 23 = .ok (.goto 4, 3) := by decide +kernel
theorem dX4_rejectionDetail_26 : decode cX4_rejectionDetail 26 = .ok (.iconst 0, 1) := by decide +kernel
theorem dX4_rejectionDetail_27 : decode cX4_rejectionDetail 27 = .ok (.ireturn, 1) := by decide +kernel
theorem dX4_causeReason_0 : decode cX4_causeReason 0 = .ok (.aload_n 0, 1) := by decide +kernel
theorem dX4_causeReason_1 : decode cX4_causeReason 1 = .ok (.aload_n 0, 1) := by decide +kernel
theorem dX4_causeReason_2 : decode cX4_causeReason 2 = .ok (.getfield 46, 3) := by decide +kernel
theorem dX4_causeReason_5 : decode cX4_causeReason 5 = .ok (.ifCond .eq 7, 3) := by decide +kernel
theorem dX4_causeReason_8 : decode cX4_causeReason 8 = .ok (.iconst 1, 1) := by decide +kernel
theorem dX4_causeReason_9 : decode cX4_causeReason 9 = .ok (.goto 4, 3) := by decide +kernel
theorem dX4_causeReason_12 : decode cX4_causeReason 12 = .ok (.iconst 0, 1) := by decide +kernel
theorem dX4_causeReason_13 : decode cX4_causeReason 13 = .ok (.invokevirtual 49, 3) := by decide +kernel
theorem dX4_causeReason_16 : decode cX4_causeReason 16 = .ok (.ifCond .eq 10, 3) := by decide +kernel
theorem dX4_causeReason_19 : decode cX4_causeReason 19 = .ok (.aload_n 0, 1) := by decide +kernel
theorem dX4_causeReason_20 : decode cX4_causeReason 20 = .ok (.getfield 46, 3) := by decide +kernel
theorem dX4_causeReason_23 : decode cX4_causeReason 23 = .ok (.goto 4, 3) := by decide +kernel
theorem dX4_causeReason_26 : decode cX4_causeReason 26 = .ok (.iconst 0, 1) := by decide +kernel
theorem dX4_causeReason_27 : decode cX4_causeReason 27 = .ok (.ireturn, 1) := by decide +kernel
theorem dX4_m_0 : decode cX4_m 0 = .ok (.aload_n 0, 1) := by decide +kernel
theorem dX4_m_1 : decode cX4_m 1 = .ok (.getfield 9, 3) := by decide +kernel
theorem dX4_m_4 : decode cX4_m 4 = .ok (.bipush 15, 2) := by decide +kernel
theorem dX4_m_6 : decode cX4_m 6 = .ok (.iconst 5, 1) := by decide +kernel
theorem dX4_m_7 : decode cX4_m 7 = .ok (.iload_n 1, 1) := by decide +kernel
theorem dX4_m_8 : decode cX4_m 8 = .ok (.imul, 1) := by decide +kernel
theorem dX4_m_9 : decode cX4_m 9 = .ok (.iadd, 1) := by decide +kernel
theorem dX4_m_10 : decode cX4_m 10 = .ok (.iload_n 2, 1) := by decide +kernel
theorem dX4_m_11 : decode cX4_m 11 = .ok (.iadd, 1) := by decide +kernel
theorem dX4_m_12 : decode cX4_m 12 = .ok (.iaload, 1) := by decide +kernel
theorem dX4_m_13 : decode cX4_m 13 = .ok (.ireturn, 1) := by decide +kernel
theorem dX4_set_0 : decode cX4_set 0 = .ok (.aload_n 0, 1) := by decide +kernel
theorem dX4_set_1 : decode cX4_set 1 = .ok (.getfield 9, 3) := by decide +kernel
theorem dX4_set_4 : decode cX4_set 4 = .ok (.bipush 15, 2) := by decide +kernel
theorem dX4_set_6 : decode cX4_set 6 = .ok (.iconst 5, 1) := by decide +kernel
theorem dX4_set_7 : decode cX4_set 7 = .ok (.iload_n 1, 1) := by decide +kernel
theorem dX4_set_8 : decode cX4_set 8 = .ok (.imul, 1) := by decide +kernel
theorem dX4_set_9 : decode cX4_set 9 = .ok (.iadd, 1) := by decide +kernel
theorem dX4_set_10 : decode cX4_set 10 = .ok (.iload_n 2, 1) := by decide +kernel
theorem dX4_set_11 : decode cX4_set 11 = .ok (.iadd, 1) := by decide +kernel
theorem dX4_set_12 : decode cX4_set 12 = .ok (.iload_n 3, 1) := by decide +kernel
theorem dX4_set_13 : decode cX4_set 13 = .ok (.iastore, 1) := by decide +kernel
theorem dX4_set_14 : decode cX4_set 14 = .ok (.return_, 1) := by decide +kernel
theorem dX4_find_0 : decode cX4_find 0 = .ok (.iconst 0, 1) := by decide +kernel
theorem dX4_find_1 : decode cX4_find 1 = .ok (.istore_n 2, 1) := by decide +kernel
theorem dX4_find_2 : decode cX4_find 2 = .ok (.iload_n 2, 1) := by decide +kernel
theorem dX4_find_3 : decode cX4_find 3 = .ok (.aload_n 0, 1) := by decide +kernel
theorem dX4_find_4 : decode cX4_find 4 = .ok (.getfield 9, 3) := by decide +kernel
theorem dX4_find_7 : decode cX4_find 7 = .ok (.iconst 0, 1) := by decide +kernel
theorem dX4_find_8 : decode cX4_find 8 = .ok (.iaload, 1) := by decide +kernel
theorem dX4_find_9 : decode cX4_find 9 = .ok (.if_icmp .ge 21, 3) := by decide +kernel
theorem dX4_find_12 : decode cX4_find 12 = .ok (.aload_n 0, 1) := by decide +kernel
theorem dX4_find_13 : decode cX4_find 13 = .ok (.iload_n 2, 1) := by decide +kernel
theorem dX4_find_14 : decode cX4_find 14 = .ok (.iconst 0, 1) := by decide +kernel
theorem dX4_find_15 : decode cX4_find 15 = .ok (.invokevirtual 53, 3) := by decide +kernel
theorem dX4_find_18 : decode cX4_find 18 = .ok (.iload_n 1, 1) := by decide +kernel
theorem dX4_find_19 : decode cX4_find 19 = .ok (.if_icmp .ne 5, 3) := by decide +kernel
theorem dX4_find_22 : decode cX4_find 22 = .ok (.iload_n 2, 1) := by decide +kernel
theorem dX4_find_23 : decode cX4_find 23 = .ok (.ireturn, 1) := by decide +kernel
theorem dX4_find_24 : decode cX4_find 24 = .ok (.iinc 2 1, 3) := by decide +kernel
theorem dX4_find_27 : decode cX4_find 27 = .ok (.goto (-25), 3) := by decide +kernel
theorem dX4_find_30 : decode cX4_find 30 = .ok (.iconst (-1), 1) := by decide +kernel
theorem dX4_find_31 : decode cX4_find 31 = .ok (.ireturn, 1) := by decide +kernel
theorem dX4_onPage_0 : decode cX4_onPage 0 = .ok (.iconst 0, 1) := by decide +kernel
theorem dX4_onPage_1 : decode cX4_onPage 1 = .ok (.istore_n 2, 1) := by decide +kernel
theorem dX4_onPage_2 : decode cX4_onPage 2 = .ok (.iload_n 2, 1) := by decide +kernel
theorem dX4_onPage_3 : decode cX4_onPage 3 = .ok (.aload_n 0, 1) := by decide +kernel
theorem dX4_onPage_4 : decode cX4_onPage 4 = .ok (.getfield 9, 3) := by decide +kernel
theorem dX4_onPage_7 : decode cX4_onPage 7 = .ok (.iconst 0, 1) := by decide +kernel
theorem dX4_onPage_8 : decode cX4_onPage 8 = .ok (.iaload, 1) := by decide +kernel
theorem dX4_onPage_9 : decode cX4_onPage 9 = .ok (.if_icmp .ge 21, 3) := by decide +kernel
theorem dX4_onPage_12 : decode cX4_onPage 12 = .ok (.aload_n 0, 1) := by decide +kernel
theorem dX4_onPage_13 : decode cX4_onPage 13 = .ok (.iload_n 2, 1) := by decide +kernel
theorem dX4_onPage_14 : decode cX4_onPage 14 = .ok (.iconst 1, 1) := by decide +kernel
theorem dX4_onPage_15 : decode cX4_onPage 15 = .ok (.invokevirtual 53, 3) := by decide +kernel
theorem dX4_onPage_18 : decode cX4_onPage 18 = .ok (.iload_n 1, 1) := by decide +kernel
theorem dX4_onPage_19 : decode cX4_onPage 19 = .ok (.if_icmp .ne 5, 3) := by decide +kernel
theorem dX4_onPage_22 : decode cX4_onPage 22 = .ok (.iload_n 2, 1) := by decide +kernel
theorem dX4_onPage_23 : decode cX4_onPage 23 = .ok (.ireturn, 1) := by decide +kernel
theorem dX4_onPage_24 : decode cX4_onPage 24 = .ok (.iinc 2 1, 3) := by decide +kernel
theorem dX4_onPage_27 : decode cX4_onPage 27 = .ok (.goto (-25), 3) := by decide +kernel
theorem dX4_onPage_30 : decode cX4_onPage 30 = .ok (.iconst (-1), 1) := by decide +kernel
theorem dX4_onPage_31 : decode cX4_onPage 31 = .ok (.ireturn, 1) := by decide +kernel
theorem dX4_inSeat_0 : decode cX4_inSeat 0 = .ok (.iconst 0, 1) := by decide +kernel
theorem dX4_inSeat_1 : decode cX4_inSeat 1 = .ok (.istore_n 2, 1) := by decide +kernel
theorem dX4_inSeat_2 : decode cX4_inSeat 2 = .ok (.iload_n 2, 1) := by decide +kernel
theorem dX4_inSeat_3 : decode cX4_inSeat 3 = .ok (.aload_n 0, 1) := by decide +kernel
theorem dX4_inSeat_4 : decode cX4_inSeat 4 = .ok (.getfield 9, 3) := by decide +kernel
theorem dX4_inSeat_7 : decode cX4_inSeat 7 = .ok (.iconst 0, 1) := by decide +kernel
theorem dX4_inSeat_8 : decode cX4_inSeat 8 = .ok (.iaload, 1) := by decide +kernel
theorem dX4_inSeat_9 : decode cX4_inSeat 9 = .ok (.if_icmp .ge 23, 3) := by decide +kernel
theorem dX4_inSeat_12 : decode cX4_inSeat 12 = .ok (.aload_n 0, 1) := by decide +kernel
theorem dX4_inSeat_13 : decode cX4_inSeat 13 = .ok (.iload_n 2, 1) := by decide +kernel
theorem dX4_inSeat_14 : decode cX4_inSeat 14 = .ok (.iconst 3, 1) := by decide +kernel
theorem dX4_inSeat_15 : decode cX4_inSeat 15 = .ok (.invokevirtual 53, 3) := by decide +kernel
theorem dX4_inSeat_18 : decode cX4_inSeat 18 = .ok (.iload_n 1, 1) := by decide +kernel
theorem dX4_inSeat_19 : decode cX4_inSeat 19 = .ok (.iconst 1, 1) := by decide +kernel
theorem dX4_inSeat_20 : decode cX4_inSeat 20 = .ok (.iadd, 1) := by decide +kernel
theorem dX4_inSeat_21 : decode cX4_inSeat 21 = .ok (.if_icmp .ne 5, 3) := by decide +kernel
theorem dX4_inSeat_24 : decode cX4_inSeat 24 = .ok (.iload_n 2, 1) := by decide +kernel
theorem dX4_inSeat_25 : decode cX4_inSeat 25 = .ok (.ireturn, 1) := by decide +kernel
theorem dX4_inSeat_26 : decode cX4_inSeat 26 = .ok (.iinc 2 1, 3) := by decide +kernel
theorem dX4_inSeat_29 : decode cX4_inSeat 29 = .ok (.goto (-27), 3) := by decide +kernel
theorem dX4_inSeat_32 : decode cX4_inSeat 32 = .ok (.iconst (-1), 1) := by decide +kernel
theorem dX4_inSeat_33 : decode cX4_inSeat 33 = .ok (.ireturn, 1) := by decide +kernel
theorem dX4_idAt_0 : decode cX4_idAt 0 = .ok (.iload_n 1, 1) := by decide +kernel
theorem dX4_idAt_1 : decode cX4_idAt 1 = .ok (.ifCond .ge 7, 3) := by decide +kernel
theorem dX4_idAt_4 : decode cX4_idAt 4 = .ok (.iconst 0, 1) := by decide +kernel
theorem dX4_idAt_5 : decode cX4_idAt 5 = .ok (.goto 9, 3) := by decide +kernel
theorem dX4_idAt_8 : decode cX4_idAt 8 = .ok (.aload_n 0, 1) := by decide +kernel
theorem dX4_idAt_9 : decode cX4_idAt 9 = .ok (.iload_n 1, 1) := by decide +kernel
theorem dX4_idAt_10 : decode cX4_idAt 10 = .ok (.iconst 0, 1) := by decide +kernel
theorem dX4_idAt_11 : decode cX4_idAt 11 = .ok (.invokevirtual 53, 3) := by decide +kernel
theorem dX4_idAt_14 : decode cX4_idAt 14 = .ok (.ireturn, 1) := by decide +kernel
theorem dX4_isPage_0 : decode cX4_isPage 0 = .ok (.iload_n 0, 1) := by decide +kernel
theorem dX4_isPage_1 : decode cX4_isPage 1 = .ok (.iconst 0, 1) := by decide +kernel
theorem dX4_isPage_2 : decode cX4_isPage 2 = .ok (.bipush 59, 2) := by decide +kernel
theorem dX4_isPage_4 : decode cX4_isPage 4 = .ok (.invokestatic 57, 3) := by decide +kernel
theorem dX4_isPage_7 : decode cX4_isPage 7 = .ok (.ireturn, 1) := by decide +kernel
theorem dX4_isChapter_0 : decode cX4_isChapter 0 = .ok (.iload_n 1, 1) := by decide +kernel
theorem dX4_isChapter_1 : decode cX4_isChapter 1 = .ok (.iconst 0, 1) := by decide +kernel
theorem dX4_isChapter_2 : decode cX4_isChapter 2 = .ok (.aload_n 0, 1) := by decide +kernel
theorem dX4_isChapter_3 : decode cX4_isChapter 3 = .ok (.getfield 9, 3) := by decide +kernel
theorem dX4_isChapter_6 : decode cX4_isChapter 6 = .ok (.iconst 2, 1) := by decide +kernel
theorem dX4_isChapter_7 : decode cX4_isChapter 7 = .ok (.iaload, 1) := by decide +kernel
theorem dX4_isChapter_8 : decode cX4_isChapter 8 = .ok (.iconst 1, 1) := by decide +kernel
theorem dX4_isChapter_9 : decode cX4_isChapter 9 = .ok (.isub, 1) := by decide +kernel
theorem dX4_isChapter_10 : decode cX4_isChapter 10 = .ok (.invokestatic 57, 3) := by decide +kernel
theorem dX4_isChapter_13 : decode cX4_isChapter 13 = .ok (.ireturn, 1) := by decide +kernel
theorem dX4_first_0 : decode cX4_first 0 = .ok (.aload_n 0, 1) := by decide +kernel
theorem dX4_first_1 : decode cX4_first 1 = .ok (.getfield 9, 3) := by decide +kernel
theorem dX4_first_4 : decode cX4_first 4 = .ok (.bipush 7, 2) := by decide +kernel
theorem dX4_first_6 : decode cX4_first 6 = .ok (.iload_n 1, 1) := by decide +kernel
theorem dX4_first_7 : decode cX4_first 7 = .ok (.iadd, 1) := by decide +kernel
theorem dX4_first_8 : decode cX4_first 8 = .ok (.iaload, 1) := by decide +kernel
theorem dX4_first_9 : decode cX4_first 9 = .ok (.ireturn, 1) := by decide +kernel
theorem dX4_last_0 : decode cX4_last 0 = .ok (.iload_n 1, 1) := by decide +kernel
theorem dX4_last_1 : decode cX4_last 1 = .ok (.aload_n 0, 1) := by decide +kernel
theorem dX4_last_2 : decode cX4_last 2 = .ok (.getfield 9, 3) := by decide +kernel
theorem dX4_last_5 : decode cX4_last 5 = .ok (.iconst 2, 1) := by decide +kernel
theorem dX4_last_6 : decode cX4_last 6 = .ok (.iaload, 1) := by decide +kernel
theorem dX4_last_7 : decode cX4_last 7 = .ok (.iconst 1, 1) := by decide +kernel
theorem dX4_last_8 : decode cX4_last 8 = .ok (.isub, 1) := by decide +kernel
theorem dX4_last_9 : decode cX4_last 9 = .ok (.if_icmp .ne 8, 3) := by decide +kernel
theorem dX4_last_12 : decode cX4_last 12 = .ok (.bipush 59, 2) := by decide +kernel
theorem dX4_last_14 : decode cX4_last 14 = .ok (.goto 16, 3) := by decide +kernel
theorem dX4_last_17 : decode cX4_last 17 = .ok (.aload_n 0, 1) := by decide +kernel
theorem dX4_last_18 : decode cX4_last 18 = .ok (.getfield 9, 3) := by decide +kernel
theorem dX4_last_21 : decode cX4_last 21 = .ok (.bipush 7, 2) := by decide +kernel
theorem dX4_last_23 : decode cX4_last 23 = .ok (.iload_n 1, 1) := by decide +kernel
theorem dX4_last_24 : decode cX4_last 24 = .ok (.iadd, 1) := by decide +kernel
theorem dX4_last_25 : decode cX4_last 25 = .ok (.iconst 1, 1) := by decide +kernel
theorem dX4_last_26 : decode cX4_last 26 = .ok (.iadd, 1) := by decide +kernel
theorem dX4_last_27 : decode cX4_last 27 = .ok (.iaload, 1) := by decide +kernel
theorem dX4_last_28 : decode cX4_last 28 = .ok (.iconst 1, 1) := by decide +kernel
theorem dX4_last_29 : decode cX4_last 29 = .ok (.isub, 1) := by decide +kernel
theorem dX4_last_30 : decode cX4_last 30 = .ok (.ireturn, 1) := by decide +kernel
theorem dX4_chapterAt_0 : decode cX4_chapterAt 0 = .ok (.iconst 0, 1) := by decide +kernel
theorem dX4_chapterAt_1 : decode cX4_chapterAt 1 = .ok (.istore_n 2, 1) := by decide +kernel
theorem dX4_chapterAt_2 : decode cX4_chapterAt 2 = .ok (.iconst 1, 1) := by decide +kernel
theorem dX4_chapterAt_3 : decode cX4_chapterAt 3 = .ok (.istore_n 3, 1) := by decide +kernel
theorem dX4_chapterAt_4 : decode cX4_chapterAt 4 = .ok (.iload_n 3, 1) := by decide +kernel
theorem dX4_chapterAt_5 : decode cX4_chapterAt 5 = .ok (.aload_n 0, 1) := by decide +kernel
theorem dX4_chapterAt_6 : decode cX4_chapterAt 6 = .ok (.getfield 9, 3) := by decide +kernel
theorem dX4_chapterAt_9 : decode cX4_chapterAt 9 = .ok (.iconst 2, 1) := by decide +kernel
theorem dX4_chapterAt_10 : decode cX4_chapterAt 10 = .ok (.iaload, 1) := by decide +kernel
theorem dX4_chapterAt_11 : decode cX4_chapterAt 11 = .ok (.if_icmp .ge 28, 3) := by decide +kernel
theorem dX4_chapterAt_14 : decode cX4_chapterAt 14 = .ok (.aload_n 0, 1) := by decide +kernel
theorem dX4_chapterAt_15 : decode cX4_chapterAt 15 = .ok (.getfield 9, 3) := by decide +kernel
theorem dX4_chapterAt_18 : decode cX4_chapterAt 18 = .ok (.bipush 7, 2) := by decide +kernel
theorem dX4_chapterAt_20 : decode cX4_chapterAt 20 = .ok (.iload_n 3, 1) := by decide +kernel
theorem dX4_chapterAt_21 : decode cX4_chapterAt 21 = .ok (.iadd, 1) := by decide +kernel
theorem dX4_chapterAt_22 : decode cX4_chapterAt 22 = .ok (.iaload, 1) := by decide +kernel
theorem dX4_chapterAt_23 : decode cX4_chapterAt 23 = .ok (.iload_n 1, 1) := by decide +kernel
theorem dX4_chapterAt_24 : decode cX4_chapterAt 24 = .ok (.if_icmp .gt 7, 3) := by decide +kernel
theorem dX4_chapterAt_27 : decode cX4_chapterAt 27 = .ok (.iload_n 3, 1) := by decide +kernel
theorem dX4_chapterAt_28 : decode cX4_chapterAt 28 = .ok (.goto 4, 3) := by decide +kernel
theorem dX4_chapterAt_31 : decode cX4_chapterAt 31 = .ok (.iload_n 2, 1) := by decide +kernel
theorem dX4_chapterAt_32 : decode cX4_chapterAt 32 = .ok (.istore_n 2, 1) := by decide +kernel
theorem dX4_chapterAt_33 : decode cX4_chapterAt 33 = .ok (.iinc 3 1, 3) := by decide +kernel
theorem dX4_chapterAt_36 : decode cX4_chapterAt 36 = .ok (.goto (-32), 3) := by decide +kernel
theorem dX4_chapterAt_39 : decode cX4_chapterAt 39 = .ok (.iload_n 2, 1) := by decide +kernel
theorem dX4_chapterAt_40 : decode cX4_chapterAt 40 = .ok (.ireturn, 1) := by decide +kernel
theorem dX4_ofChapter_0 : decode cX4_ofChapter 0 = .ok (.iconst 0, 1) := by decide +kernel
theorem dX4_ofChapter_1 : decode cX4_ofChapter 1 = .ok (.istore_n 3, 1) := by decide +kernel
theorem dX4_ofChapter_2 : decode cX4_ofChapter 2 = .ok (.iconst 0, 1) := by decide +kernel
theorem dX4_ofChapter_3 : decode cX4_ofChapter 3 = .ok (.istore 4, 2) := by decide +kernel
theorem dX4_ofChapter_5 : decode cX4_ofChapter 5 = .ok (.iload 4, 2) := by decide +kernel
theorem dX4_ofChapter_7 : decode cX4_ofChapter 7 = .ok (.aload_n 0, 1) := by decide +kernel
theorem dX4_ofChapter_8 : decode cX4_ofChapter 8 = .ok (.getfield 9, 3) := by decide +kernel
theorem dX4_ofChapter_11 : decode cX4_ofChapter 11 = .ok (.iconst 0, 1) := by decide +kernel
theorem dX4_ofChapter_12 : decode cX4_ofChapter 12 = .ok (.iaload, 1) := by decide +kernel
theorem dX4_ofChapter_13 : decode cX4_ofChapter 13 = .ok (.if_icmp .ge 46, 3) := by decide +kernel
theorem dX4_ofChapter_16 : decode cX4_ofChapter 16 = .ok (.iload_n 3, 1) := by decide +kernel
theorem dX4_ofChapter_17 : decode cX4_ofChapter 17 = .ok (.aload_n 0, 1) := by decide +kernel
theorem dX4_ofChapter_18 : decode cX4_ofChapter 18 = .ok (.aload_n 0, 1) := by decide +kernel
theorem dX4_ofChapter_19 : decode cX4_ofChapter 19 = .ok (.iload 4, 2) := by decide +kernel
theorem dX4_ofChapter_21 : decode cX4_ofChapter 21 = .ok (.iconst 1, 1) := by decide +kernel
theorem dX4_ofChapter_22 : decode cX4_ofChapter 22 = .ok (.invokevirtual 53, 3) := by decide +kernel
theorem dX4_ofChapter_25 : decode cX4_ofChapter 25 = .ok (.invokevirtual 61, 3) := by decide +kernel
theorem dX4_ofChapter_28 : decode cX4_ofChapter 28 = .ok (.iload_n 1, 1) := by decide +kernel
theorem dX4_ofChapter_29 : decode cX4_ofChapter 29 = .ok (.if_icmp .ne 21, 3) := by decide +kernel
theorem dX4_ofChapter_32 : decode cX4_ofChapter 32 = .ok (.iload_n 2, 1) := by decide +kernel
theorem dX4_ofChapter_33 : decode cX4_ofChapter 33 = .ok (.ifCond .ne 7, 3) := by decide +kernel
theorem dX4_ofChapter_36 : decode cX4_ofChapter 36 = .ok (.iconst 1, 1) := by decide +kernel
theorem dX4_ofChapter_37 : decode cX4_ofChapter 37 = .ok (.goto 14, 3) := by decide +kernel
theorem dX4_ofChapter_40 : decode cX4_ofChapter 40 = .ok (.aload_n 0, 1) := by decide +kernel
theorem dX4_ofChapter_41 : decode cX4_ofChapter 41 = .ok (.iload 4, 2) := by decide +kernel
theorem dX4_ofChapter_43 : decode cX4_ofChapter 43 = .ok (.iconst 2, 1) := by decide +kernel
theorem dX4_ofChapter_44 : decode cX4_ofChapter 44 = .ok (.invokevirtual 53, 3) := by decide +kernel
theorem dX4_ofChapter_47 : decode cX4_ofChapter 47 = .ok (.goto 4, 3) := by decide +kernel
theorem dX4_ofChapter_50 : decode cX4_ofChapter 50 = .ok (.iconst 0, 1) := by decide +kernel
theorem dX4_ofChapter_51 : decode cX4_ofChapter 51 = .ok (.iadd, 1) := by decide +kernel
theorem dX4_ofChapter_52 : decode cX4_ofChapter 52 = .ok (.istore_n 3, 1) := by decide +kernel
theorem dX4_ofChapter_53 : decode cX4_ofChapter 53 = .ok (.iinc 4 1, 3) := by decide +kernel
theorem dX4_ofChapter_56 : decode cX4_ofChapter 56 = .ok (.goto (-51), 3) := by decide +kernel
theorem dX4_ofChapter_59 : decode cX4_ofChapter 59 = .ok (.iload_n 3, 1) := by decide +kernel
theorem dX4_ofChapter_60 : decode cX4_ofChapter 60 = .ok (.ireturn, 1) := by decide +kernel
theorem dX4_weightOfAll_0 : decode cX4_weightOfAll 0 = .ok (.iconst 0, 1) := by decide +kernel
theorem dX4_weightOfAll_1 : decode cX4_weightOfAll 1 = .ok (.istore_n 2, 1) := by decide +kernel
theorem dX4_weightOfAll_2 : decode cX4_weightOfAll 2 = .ok (.iconst 0, 1) := by decide +kernel
theorem dX4_weightOfAll_3 : decode cX4_weightOfAll 3 = .ok (.istore_n 3, 1) := by decide +kernel
theorem dX4_weightOfAll_4 : decode cX4_weightOfAll 4 = .ok (.iload_n 3, 1) := by decide +kernel
theorem dX4_weightOfAll_5 : decode cX4_weightOfAll 5 = .ok (.aload_n 0, 1) := by decide +kernel
theorem dX4_weightOfAll_6 : decode cX4_weightOfAll 6 = .ok (.getfield 9, 3) := by decide +kernel
theorem dX4_weightOfAll_9 : decode cX4_weightOfAll 9 = .ok (.iconst 0, 1) := by decide +kernel
theorem dX4_weightOfAll_10 : decode cX4_weightOfAll 10 = .ok (.iaload, 1) := by decide +kernel
theorem dX4_weightOfAll_11 : decode cX4_weightOfAll 11 = .ok (.if_icmp .ge 53, 3) := by decide +kernel
theorem dX4_weightOfAll_14 : decode cX4_weightOfAll 14 = .ok (.iload_n 2, 1) := by decide +kernel
theorem dX4_weightOfAll_15 : decode cX4_weightOfAll 15 = .ok (.iload_n 1, 1) := by decide +kernel
theorem dX4_weightOfAll_16 : decode cX4_weightOfAll 16 = .ok (.ifCond .eq 30, 3) := by decide +kernel
theorem dX4_weightOfAll_19 : decode cX4_weightOfAll 19 = .ok (.aload_n 0, 1) := by decide +kernel
theorem dX4_weightOfAll_20 : decode cX4_weightOfAll 20 = .ok (.iload_n 3, 1) := by decide +kernel
theorem dX4_weightOfAll_21 : decode cX4_weightOfAll 21 = .ok (.iconst 3, 1) := by decide +kernel
theorem dX4_weightOfAll_22 : decode cX4_weightOfAll 22 = .ok (.invokevirtual 53, 3) := by decide +kernel
theorem dX4_weightOfAll_25 : decode cX4_weightOfAll 25 = .ok (.ifCond .le 7, 3) := by decide +kernel
theorem dX4_weightOfAll_28 : decode cX4_weightOfAll 28 = .ok (.iconst 1, 1) := by decide +kernel
theorem dX4_weightOfAll_29 : decode cX4_weightOfAll 29 = .ok (.goto 4, 3) := by decide +kernel
theorem dX4_weightOfAll_32 : decode cX4_weightOfAll 32 = .ok (.iconst 0, 1) := by decide +kernel
theorem dX4_weightOfAll_33 : decode cX4_weightOfAll 33 = .ok (.iload_n 1, 1) := by decide +kernel
theorem dX4_weightOfAll_34 : decode cX4_weightOfAll 34 = .ok (.iconst 1, 1) := by decide +kernel
theorem dX4_weightOfAll_35 : decode cX4_weightOfAll 35 = .ok (.if_icmp .ne 7, 3) := by decide +kernel
theorem dX4_weightOfAll_38 : decode cX4_weightOfAll 38 = .ok (.iconst 1, 1) := by decide +kernel
theorem dX4_weightOfAll_39 : decode cX4_weightOfAll 39 = .ok (.goto 4, 3) := by decide +kernel
theorem dX4_weightOfAll_42 : decode cX4_weightOfAll 42 = .ok (.iconst 0, 1) := by decide +kernel
theorem dX4_weightOfAll_43 : decode cX4_weightOfAll 43 = .ok (.if_icmp .ne 12, 3) := by decide +kernel
theorem dX4_weightOfAll_46 : decode cX4_weightOfAll 46 = .ok (.aload_n 0, 1) := by decide +kernel
theorem dX4_weightOfAll_47 : decode cX4_weightOfAll 47 = .ok (.iload_n 3, 1) := by decide +kernel
theorem dX4_weightOfAll_48 : decode cX4_weightOfAll 48 = .ok (.iconst 2, 1) := by decide +kernel
theorem dX4_weightOfAll_49 : decode cX4_weightOfAll 49 = .ok (.invokevirtual 53, 3) := by decide +kernel
theorem dX4_weightOfAll_52 : decode cX4_weightOfAll 52 = .ok (.goto 4, 3) := by decide +kernel
theorem dX4_weightOfAll_55 : decode cX4_weightOfAll 55 = .ok (.iconst 0, 1) := by decide +kernel
theorem dX4_weightOfAll_56 : decode cX4_weightOfAll 56 = .ok (.iadd, 1) := by decide +kernel
theorem dX4_weightOfAll_57 : decode cX4_weightOfAll 57 = .ok (.istore_n 2, 1) := by decide +kernel
theorem dX4_weightOfAll_58 : decode cX4_weightOfAll 58 = .ok (.iinc 3 1, 3) := by decide +kernel
theorem dX4_weightOfAll_61 : decode cX4_weightOfAll 61 = .ok (.goto (-57), 3) := by decide +kernel
theorem dX4_weightOfAll_64 : decode cX4_weightOfAll 64 = .ok (.iload_n 2, 1) := by decide +kernel
theorem dX4_weightOfAll_65 : decode cX4_weightOfAll 65 = .ok (.ireturn, 1) := by decide +kernel
theorem dX4_favour_0 : decode cX4_favour 0 = .ok (.iconst 0, 1) := by decide +kernel
theorem dX4_favour_1 : decode cX4_favour 1 = .ok (.istore_n 2, 1) := by decide +kernel
theorem dX4_favour_2 : decode cX4_favour 2 = .ok (.iconst 0, 1) := by decide +kernel
theorem dX4_favour_3 : decode cX4_favour 3 = .ok (.istore_n 3, 1) := by decide +kernel
theorem dX4_favour_4 : decode cX4_favour 4 = .ok (.iload_n 3, 1) := by decide +kernel
theorem dX4_favour_5 : decode cX4_favour 5 = .ok (.aload_n 0, 1) := by decide +kernel
theorem dX4_favour_6 : decode cX4_favour 6 = .ok (.getfield 9, 3) := by decide +kernel
theorem dX4_favour_9 : decode cX4_favour 9 = .ok (.iconst 0, 1) := by decide +kernel
theorem dX4_favour_10 : decode cX4_favour 10 = .ok (.iaload, 1) := by decide +kernel
theorem dX4_favour_11 : decode cX4_favour 11 = .ok (.if_icmp .ge 45, 3) := by decide +kernel
theorem dX4_favour_14 : decode cX4_favour 14 = .ok (.iload_n 2, 1) := by decide +kernel
theorem dX4_favour_15 : decode cX4_favour 15 = .ok (.aload_n 0, 1) := by decide +kernel
theorem dX4_favour_16 : decode cX4_favour 16 = .ok (.iload_n 3, 1) := by decide +kernel
theorem dX4_favour_17 : decode cX4_favour 17 = .ok (.iconst 3, 1) := by decide +kernel
theorem dX4_favour_18 : decode cX4_favour 18 = .ok (.invokevirtual 53, 3) := by decide +kernel
theorem dX4_favour_21 : decode cX4_favour 21 = .ok (.ifCond .le 26, 3) := by decide +kernel
theorem dX4_favour_24 : decode cX4_favour 24 = .ok (.aload_n 0, 1) := by decide +kernel
theorem dX4_favour_25 : decode cX4_favour 25 = .ok (.aload_n 0, 1) := by decide +kernel
theorem dX4_favour_26 : decode cX4_favour 26 = .ok (.iload_n 3, 1) := by decide +kernel
theorem dX4_favour_27 : decode cX4_favour 27 = .ok (.iconst 1, 1) := by decide +kernel
theorem dX4_favour_28 : decode cX4_favour 28 = .ok (.invokevirtual 53, 3) := by decide +kernel
theorem dX4_favour_31 : decode cX4_favour 31 = .ok (.invokevirtual 61, 3) := by decide +kernel
theorem dX4_favour_34 : decode cX4_favour 34 = .ok (.iload_n 1, 1) := by decide +kernel
theorem dX4_favour_35 : decode cX4_favour 35 = .ok (.if_icmp .eq 12, 3) := by decide +kernel
theorem dX4_favour_38 : decode cX4_favour 38 = .ok (.aload_n 0, 1) := by decide +kernel
theorem dX4_favour_39 : decode cX4_favour 39 = .ok (.iload_n 3, 1) := by decide +kernel
theorem dX4_favour_40 : decode cX4_favour 40 = .ok (.iconst 2, 1) := by decide +kernel
theorem dX4_favour_41 : decode cX4_favour 41 = .ok (.invokevirtual 53, 3) := by decide +kernel
theorem dX4_favour_44 : decode cX4_favour 44 = .ok (.goto 4, 3) := by decide +kernel
theorem dX4_favour_47 : decode cX4_favour 47 = .ok (.iconst 0, 1) := by decide +kernel
theorem dX4_favour_48 : decode cX4_favour 48 = .ok (.iadd, 1) := by decide +kernel
theorem dX4_favour_49 : decode cX4_favour 49 = .ok (.istore_n 2, 1) := by decide +kernel
theorem dX4_favour_50 : decode cX4_favour 50 = .ok (.iinc 3 1, 3) := by decide +kernel
theorem dX4_favour_53 : decode cX4_favour 53 = .ok (.goto (-49), 3) := by decide +kernel
theorem dX4_favour_56 : decode cX4_favour 56 = .ok (.iload_n 2, 1) := by decide +kernel
theorem dX4_favour_57 : decode cX4_favour 57 = .ok (.ireturn, 1) := by decide +kernel
theorem dX4_isCarried_0 : decode cX4_isCarried 0 = .ok (.iconst 2, 1) := by decide +kernel
theorem dX4_isCarried_1 : decode cX4_isCarried 1 = .ok (.aload_n 0, 1) := by decide +kernel
theorem dX4_isCarried_2 : decode cX4_isCarried 2 = .ok (.iload_n 1, 1) := by decide +kernel
theorem dX4_isCarried_3 : decode cX4_isCarried 3 = .ok (.invokevirtual 65, 3) := by decide +kernel
theorem dX4_isCarried_6 : decode cX4_isCarried 6 = .ok (.imul, 1) := by decide +kernel
theorem dX4_isCarried_7 : decode cX4_isCarried 7 = .ok (.aload_n 0, 1) := by decide +kernel
theorem dX4_isCarried_8 : decode cX4_isCarried 8 = .ok (.iconst 0, 1) := by decide +kernel
theorem dX4_isCarried_9 : decode cX4_isCarried 9 = .ok (.invokevirtual 68, 3) := by decide +kernel
theorem dX4_isCarried_12 : decode cX4_isCarried 12 = .ok (.if_icmp .le 7, 3) := by decide +kernel
theorem dX4_isCarried_15 : decode cX4_isCarried 15 = .ok (.iconst 1, 1) := by decide +kernel
theorem dX4_isCarried_16 : decode cX4_isCarried 16 = .ok (.goto 4, 3) := by decide +kernel
theorem dX4_isCarried_19 : decode cX4_isCarried 19 = .ok (.iconst 0, 1) := by decide +kernel
theorem dX4_isCarried_20 : decode cX4_isCarried 20 = .ok (.ireturn, 1) := by decide +kernel
theorem dX4_freeSeat_0 : decode cX4_freeSeat 0 = .ok (.iconst 0, 1) := by decide +kernel
theorem dX4_freeSeat_1 : decode cX4_freeSeat 1 = .ok (.istore_n 1, 1) := by decide +kernel
theorem dX4_freeSeat_2 : decode cX4_freeSeat 2 = .ok (.iload_n 1, 1) := by decide +kernel
theorem dX4_freeSeat_3 : decode cX4_freeSeat 3 = .ok (.iconst 5, 1) := by decide +kernel
theorem dX4_freeSeat_4 : decode cX4_freeSeat 4 = .ok (.if_icmp .ge 19, 3) := by decide +kernel
theorem dX4_freeSeat_7 : decode cX4_freeSeat 7 = .ok (.aload_n 0, 1) := by decide +kernel
theorem dX4_freeSeat_8 : decode cX4_freeSeat 8 = .ok (.iload_n 1, 1) := by decide +kernel
theorem dX4_freeSeat_9 : decode cX4_freeSeat 9 = .ok (.invokevirtual 71, 3) := by decide +kernel
theorem dX4_freeSeat_12 : decode cX4_freeSeat 12 = .ok (.ifCond .ge 5, 3) := by decide +kernel
theorem dX4_freeSeat_15 : decode cX4_freeSeat 15 = .ok (.iload_n 1, 1) := by decide +kernel
theorem dX4_freeSeat_16 : decode cX4_freeSeat 16 = .ok (.ireturn, 1) := by decide +kernel
theorem dX4_freeSeat_17 : decode cX4_freeSeat 17 = .ok (.iinc 1 1, 3) := by decide +kernel
theorem dX4_freeSeat_20 : decode cX4_freeSeat 20 = .ok (.goto (-18), 3) := by decide +kernel
theorem dX4_freeSeat_23 : decode cX4_freeSeat 23 = .ok (.iconst (-1), 1) := by decide +kernel
theorem dX4_freeSeat_24 : decode cX4_freeSeat 24 = .ok (.ireturn, 1) := by decide +kernel
theorem dX4_adds_0 : decode cX4_adds 0 = .ok (.iload_n 1, 1) := by decide +kernel
theorem dX4_adds_1 : decode cX4_adds 1 = .ok (.invokestatic 74, 3) := by decide +kernel
theorem dX4_adds_4 : decode cX4_adds 4 = .ok (.ifCond .ne 5, 3) := by decide +kernel
theorem dX4_adds_7 : decode cX4_adds 7 = .ok (.iconst 1, 1) := by decide +kernel
theorem dX4_adds_8 : decode cX4_adds 8 = .ok (.ireturn, 1) := by decide +kernel
theorem dX4_adds_9 : decode cX4_adds 9 = .ok (.iload_n 2, 1) := by decide +kernel
theorem dX4_adds_10 : decode cX4_adds 10 = .ok (.iconst 1, 1) := by decide +kernel
theorem dX4_adds_11 : decode cX4_adds 11 = .ok (.bipush 9, 2) := by decide +kernel
theorem dX4_adds_13 : decode cX4_adds 13 = .ok (.invokestatic 57, 3) := by decide +kernel
theorem dX4_adds_16 : decode cX4_adds 16 = .ok (.ifCond .ne 5, 3) := by decide +kernel
theorem dX4_adds_19 : decode cX4_adds 19 = .ok (.iconst 2, 1) := by decide +kernel
theorem dX4_adds_20 : decode cX4_adds 20 = .ok (.ireturn, 1) := by decide +kernel
theorem dX4_adds_21 : decode cX4_adds 21 = .ok (.aload_n 0, 1) := by decide +kernel
theorem dX4_adds_22 : decode cX4_adds 22 = .ok (.getfield 9, 3) := by decide +kernel
theorem dX4_adds_25 : decode cX4_adds 25 = .ok (.iconst 0, 1) := by decide +kernel
theorem dX4_adds_26 : decode cX4_adds 26 = .ok (.iaload, 1) := by decide +kernel
theorem dX4_adds_27 : decode cX4_adds 27 = .ok (.istore 4, 2) := by decide +kernel
theorem dX4_adds_29 : decode cX4_adds 29 = .ok (.aload_n 0, 1) := by decide +kernel
theorem dX4_adds_30 : decode cX4_adds 30 = .ok (.invokevirtual 78, 3) := by decide +kernel
theorem dX4_adds_33 : decode cX4_adds 33 = .ok (.istore 5, 2) := by decide +kernel
theorem dX4_adds_35 : decode cX4_adds 35 = .ok (.aload_n 0, 1) := by decide +kernel
theorem dX4_adds_36 : decode cX4_adds 36 = .ok (.iload_n 1, 1) := by decide +kernel
theorem dX4_adds_37 : decode cX4_adds 37 = .ok (.invokevirtual 82, 3) := by decide +kernel
theorem dX4_adds_40 : decode cX4_adds 40 = .ok (.istore 6, 2) := by decide +kernel
theorem dX4_adds_42 : decode cX4_adds 42 = .ok (.aload_n 0, 1) := by decide +kernel
theorem dX4_adds_43 : decode cX4_adds 43 = .ok (.iload 4, 2) := by decide +kernel
theorem dX4_adds_45 : decode cX4_adds 45 = .ok (.bipush 12, 2) := by decide +kernel
theorem dX4_adds_47 : decode cX4_adds 47 = .ok (.if_icmp .ne 7, 3) := by decide +kernel
theorem dX4_adds_50 : decode cX4_adds 50 = .ok (.iconst 1, 1) := by decide +kernel
theorem dX4_adds_51 : decode cX4_adds 51 = .ok (.goto 4, 3) := by decide +kernel
theorem dX4_adds_54 : decode cX4_adds 54 = .ok (.iconst 0, 1) := by decide +kernel
theorem dX4_adds_55 : decode cX4_adds 55 = .ok (.iconst 1, 1) := by decide +kernel
theorem dX4_adds_56 : decode cX4_adds 56 = .ok (.bipush 12, 2) := by decide +kernel
theorem dX4_adds_58 : decode cX4_adds 58 = .ok (.invokevirtual 85, 3) := by decide +kernel
theorem dX4_adds_61 : decode cX4_adds 61 = .ok (.ifCond .ne 50, 3) := by decide +kernel
theorem dX4_adds_64 : decode cX4_adds 64 = .ok (.aload_n 0, 1) := by decide +kernel
theorem dX4_adds_65 : decode cX4_adds 65 = .ok (.iload_n 3, 1) := by decide +kernel
theorem dX4_adds_66 : decode cX4_adds 66 = .ok (.ifCond .eq 12, 3) := by decide +kernel
theorem dX4_adds_69 : decode cX4_adds 69 = .ok (.iload 5, 2) := by decide +kernel
theorem dX4_adds_71 : decode cX4_adds 71 = .ok (.ifCond .ge 7, 3) := by decide +kernel
theorem dX4_adds_74 : decode cX4_adds 74 = .ok (.iconst 1, 1) := by decide +kernel
theorem dX4_adds_75 : decode cX4_adds 75 = .ok (.goto 4, 3) := by decide +kernel
theorem dX4_adds_78 : decode cX4_adds 78 = .ok (.iconst 0, 1) := by decide +kernel
theorem dX4_adds_79 : decode cX4_adds 79 = .ok (.iconst 2, 1) := by decide +kernel
theorem dX4_adds_80 : decode cX4_adds 80 = .ok (.iconst 5, 1) := by decide +kernel
theorem dX4_adds_81 : decode cX4_adds 81 = .ok (.invokevirtual 85, 3) := by decide +kernel
theorem dX4_adds_84 : decode cX4_adds 84 = .ok (.ifCond .ne 27, 3) := by decide +kernel
theorem dX4_adds_87 : decode cX4_adds 87 = .ok (.aload_n 0, 1) := by decide +kernel
theorem dX4_adds_88 : decode cX4_adds 88 = .ok (.iload 6, 2) := by decide +kernel
theorem dX4_adds_90 : decode cX4_adds 90 = .ok (.ifCond .lt 7, 3) := by decide +kernel
theorem dX4_adds_93 : decode cX4_adds 93 = .ok (.iconst 1, 1) := by decide +kernel
theorem dX4_adds_94 : decode cX4_adds 94 = .ok (.goto 4, 3) := by decide +kernel
theorem dX4_adds_97 : decode cX4_adds 97 = .ok (.iconst 0, 1) := by decide +kernel
theorem dX4_adds_98 : decode cX4_adds 98 = .ok (.iconst 3, 1) := by decide +kernel
theorem dX4_adds_99 : decode cX4_adds 99 = .ok (.aload_n 0, 1) := by decide +kernel
theorem dX4_adds_100 : decode cX4_adds 100 = .ok (.iload 6, 2) := by decide +kernel
theorem dX4_adds_102 : decode cX4_adds 102 = .ok (.invokevirtual 89, 3) := by decide +kernel
theorem dX4_adds_105 : decode cX4_adds 105 = .ok (.invokevirtual 85, 3) := by decide +kernel
theorem dX4_adds_108 : decode cX4_adds 108 = .ok (.ifCond .eq 5, 3) := by decide +kernel
theorem dX4_adds_111 : decode cX4_adds 111 = .ok (.iconst 3, 1) := by decide +kernel
theorem dX4_adds_112 : decode cX4_adds 112 = .ok (.ireturn, 1) := by decide +kernel
theorem dX4_adds_113 : decode cX4_adds 113 = .ok (.aload_n 0, 1) := by decide +kernel
theorem dX4_adds_114 : decode cX4_adds 114 = .ok (.aload_n 0, 1) := by decide +kernel
theorem dX4_adds_115 : decode cX4_adds 115 = .ok (.getfield 9, 3) := by decide +kernel
theorem dX4_adds_118 : decode cX4_adds 118 = .ok (.iconst 1, 1) := by decide +kernel
theorem dX4_adds_119 : decode cX4_adds 119 = .ok (.iaload, 1) := by decide +kernel
theorem dX4_adds_120 : decode cX4_adds 120 = .ok (.putfield 37, 3) := by decide +kernel
theorem dX4_adds_123 : decode cX4_adds 123 = .ok (.aload_n 0, 1) := by decide +kernel
theorem dX4_adds_124 : decode cX4_adds 124 = .ok (.getfield 9, 3) := by decide +kernel
theorem dX4_adds_127 : decode cX4_adds 127 = .ok (.iconst 1, 1) := by decide +kernel
theorem dX4_adds_128 : decode cX4_adds 128 = .ok (.dup2, 1) := by decide +kernel
theorem dX4_adds_129 : decode cX4_adds 129 = .ok (.iaload, 1) := by decide +kernel
theorem dX4_adds_130 : decode cX4_adds 130 = .ok (.iconst 1, 1) := by decide +kernel
theorem dX4_adds_131 : decode cX4_adds 131 = .ok (.iadd, 1) := by decide +kernel
theorem dX4_adds_132 : decode cX4_adds 132 = .ok (.iastore, 1) := by decide +kernel
theorem dX4_adds_133 : decode cX4_adds 133 = .ok (.aload_n 0, 1) := by decide +kernel
theorem dX4_adds_134 : decode cX4_adds 134 = .ok (.getfield 9, 3) := by decide +kernel
theorem dX4_adds_137 : decode cX4_adds 137 = .ok (.iconst 0, 1) := by decide +kernel
theorem dX4_adds_138 : decode cX4_adds 138 = .ok (.dup2, 1) := by decide +kernel
theorem dX4_adds_139 : decode cX4_adds 139 = .ok (.iaload, 1) := by decide +kernel
theorem dX4_adds_140 : decode cX4_adds 140 = .ok (.iconst 1, 1) := by decide +kernel
theorem dX4_adds_141 : decode cX4_adds 141 = .ok (.iadd, 1) := by decide +kernel
theorem dX4_adds_142 : decode cX4_adds 142 = .ok (.iastore, 1) := by decide +kernel
theorem dX4_adds_143 : decode cX4_adds 143 = .ok (.aload_n 0, 1) := by decide +kernel
theorem dX4_adds_144 : decode cX4_adds 144 = .ok (.iload 4, 2) := by decide +kernel
theorem dX4_adds_146 : decode cX4_adds 146 = .ok (.iconst 0, 1) := by decide +kernel
theorem dX4_adds_147 : decode cX4_adds 147 = .ok (.aload_n 0, 1) := by decide +kernel
theorem dX4_adds_148 : decode cX4_adds 148 = .ok (.getfield 37, 3) := by decide +kernel
theorem dX4_adds_151 : decode cX4_adds 151 = .ok (.invokevirtual 92, 3) := by decide +kernel
theorem dX4_adds_154 : decode cX4_adds 154 = .ok (.aload_n 0, 1) := by decide +kernel
theorem dX4_adds_155 : decode cX4_adds 155 = .ok (.iload 4, 2) := by decide +kernel
theorem dX4_adds_157 : decode cX4_adds 157 = .ok (.iconst 1, 1) := by decide +kernel
theorem dX4_adds_158 : decode cX4_adds 158 = .ok (.iload_n 1, 1) := by decide +kernel
theorem dX4_adds_159 : decode cX4_adds 159 = .ok (.invokevirtual 92, 3) := by decide +kernel
theorem dX4_adds_162 : decode cX4_adds 162 = .ok (.aload_n 0, 1) := by decide +kernel
theorem dX4_adds_163 : decode cX4_adds 163 = .ok (.iload 4, 2) := by decide +kernel
theorem dX4_adds_165 : decode cX4_adds 165 = .ok (.iconst 2, 1) := by decide +kernel
theorem dX4_adds_166 : decode cX4_adds 166 = .ok (.iload_n 2, 1) := by decide +kernel
theorem dX4_adds_167 : decode cX4_adds 167 = .ok (.invokevirtual 92, 3) := by decide +kernel
theorem dX4_adds_170 : decode cX4_adds 170 = .ok (.aload_n 0, 1) := by decide +kernel
theorem dX4_adds_171 : decode cX4_adds 171 = .ok (.iload 4, 2) := by decide +kernel
theorem dX4_adds_173 : decode cX4_adds 173 = .ok (.iconst 3, 1) := by decide +kernel
theorem dX4_adds_174 : decode cX4_adds 174 = .ok (.iload_n 3, 1) := by decide +kernel
theorem dX4_adds_175 : decode cX4_adds 175 = .ok (.ifCond .eq 10, 3) := by decide +kernel
theorem dX4_adds_178 : decode cX4_adds 178 = .ok (.iload 5, 2) := by decide +kernel
theorem dX4_adds_180 : decode cX4_adds 180 = .ok (.iconst 1, 1) := by decide +kernel
theorem dX4_adds_181 : decode cX4_adds 181 = .ok (.iadd, 1) := by decide +kernel
theorem dX4_adds_182 : decode cX4_adds 182 = .ok (.goto 4, 3) := by decide +kernel
theorem dX4_adds_185 : decode cX4_adds 185 = .ok (.iconst 0, 1) := by decide +kernel
theorem dX4_adds_186 : decode cX4_adds 186 = .ok (.invokevirtual 92, 3) := by decide +kernel
theorem dX4_adds_189 : decode cX4_adds 189 = .ok (.aload_n 0, 1) := by decide +kernel
theorem dX4_adds_190 : decode cX4_adds 190 = .ok (.iload 4, 2) := by decide +kernel
theorem dX4_adds_192 : decode cX4_adds 192 = .ok (.iconst 4, 1) := by decide +kernel
theorem dX4_adds_193 : decode cX4_adds 193 = .ok (.iconst 0, 1) := by decide +kernel
theorem dX4_adds_194 : decode cX4_adds 194 = .ok (.invokevirtual 92, 3) := by decide +kernel
theorem dX4_adds_197 : decode cX4_adds 197 = .ok (.iconst 0, 1) := by decide +kernel
theorem dX4_adds_198 : decode cX4_adds 198 = .ok (.ireturn, 1) := by decide +kernel
theorem dX4_addRibbon_0 : decode cX4_addRibbon 0 = .ok (.aload_n 0, 1) := by decide +kernel
theorem dX4_addRibbon_1 : decode cX4_addRibbon 1 = .ok (.invokevirtual 96, 3) := by decide +kernel
theorem dX4_addRibbon_4 : decode cX4_addRibbon 4 = .ok (.aload_n 0, 1) := by decide +kernel
theorem dX4_addRibbon_5 : decode cX4_addRibbon 5 = .ok (.aload_n 0, 1) := by decide +kernel
theorem dX4_addRibbon_6 : decode cX4_addRibbon 6 = .ok (.iload_n 1, 1) := by decide +kernel
theorem dX4_addRibbon_7 : decode cX4_addRibbon 7 = .ok (.iload_n 2, 1) := by decide +kernel
theorem dX4_addRibbon_8 : decode cX4_addRibbon 8 = .ok (.iconst 1, 1) := by decide +kernel
theorem dX4_addRibbon_9 : decode cX4_addRibbon 9 = .ok (.invokevirtual 99, 3) := by decide +kernel
theorem dX4_addRibbon_12 : decode cX4_addRibbon 12 = .ok (.iconst 1, 1) := by decide +kernel
theorem dX4_addRibbon_13 : decode cX4_addRibbon 13 = .ok (.iconst 2, 1) := by decide +kernel
theorem dX4_addRibbon_14 : decode cX4_addRibbon 14 = .ok (.iconst 3, 1) := by decide +kernel
theorem dX4_addRibbon_15 : decode cX4_addRibbon 15 = .ok (.invokevirtual 103, 3) := by decide +kernel
theorem dX4_addRibbon_18 : decode cX4_addRibbon 18 = .ok (.ireturn, 1) := by decide +kernel
theorem dX4_addDogEar_0 : decode cX4_addDogEar 0 = .ok (.aload_n 0, 1) := by decide +kernel
theorem dX4_addDogEar_1 : decode cX4_addDogEar 1 = .ok (.invokevirtual 96, 3) := by decide +kernel
theorem dX4_addDogEar_4 : decode cX4_addDogEar 4 = .ok (.aload_n 0, 1) := by decide +kernel
theorem dX4_addDogEar_5 : decode cX4_addDogEar 5 = .ok (.aload_n 0, 1) := by decide +kernel
theorem dX4_addDogEar_6 : decode cX4_addDogEar 6 = .ok (.iload_n 1, 1) := by decide +kernel
theorem dX4_addDogEar_7 : decode cX4_addDogEar 7 = .ok (.iload_n 2, 1) := by decide +kernel
theorem dX4_addDogEar_8 : decode cX4_addDogEar 8 = .ok (.iconst 0, 1) := by decide +kernel
theorem dX4_addDogEar_9 : decode cX4_addDogEar 9 = .ok (.invokevirtual 99, 3) := by decide +kernel
theorem dX4_addDogEar_12 : decode cX4_addDogEar 12 = .ok (.iconst 1, 1) := by decide +kernel
theorem dX4_addDogEar_13 : decode cX4_addDogEar 13 = .ok (.iconst 2, 1) := by decide +kernel
theorem dX4_addDogEar_14 : decode cX4_addDogEar 14 = .ok (.iconst 3, 1) := by decide +kernel
theorem dX4_addDogEar_15 : decode cX4_addDogEar 15 = .ok (.invokevirtual 103, 3) := by decide +kernel
theorem dX4_addDogEar_18 : decode cX4_addDogEar 18 = .ok (.ireturn, 1) := by decide +kernel
theorem dX4_goes_0 : decode cX4_goes 0 = .ok (.aload_n 0, 1) := by decide +kernel
theorem dX4_goes_1 : decode cX4_goes 1 = .ok (.getfield 9, 3) := by decide +kernel
theorem dX4_goes_4 : decode cX4_goes 4 = .ok (.iconst 0, 1) := by decide +kernel
theorem dX4_goes_5 : decode cX4_goes 5 = .ok (.iaload, 1) := by decide +kernel
theorem dX4_goes_6 : decode cX4_goes 6 = .ok (.iconst 1, 1) := by decide +kernel
theorem dX4_goes_7 : decode cX4_goes 7 = .ok (.isub, 1) := by decide +kernel
theorem dX4_goes_8 : decode cX4_goes 8 = .ok (.istore_n 2, 1) := by decide +kernel
theorem dX4_goes_9 : decode cX4_goes 9 = .ok (.iconst 5, 1) := by decide +kernel
theorem dX4_goes_10 : decode cX4_goes 10 = .ok (.iload_n 1, 1) := by decide +kernel
theorem dX4_goes_11 : decode cX4_goes 11 = .ok (.imul, 1) := by decide +kernel
theorem dX4_goes_12 : decode cX4_goes 12 = .ok (.istore_n 3, 1) := by decide +kernel
theorem dX4_goes_13 : decode cX4_goes 13 = .ok (.iload_n 3, 1) := by decide +kernel
theorem dX4_goes_14 : decode cX4_goes 14 = .ok (.iconst 5, 1) := by decide +kernel
theorem dX4_goes_15 : decode cX4_goes 15 = .ok (.iload_n 2, 1) := by decide +kernel
theorem dX4_goes_16 : decode cX4_goes 16 = .ok (.imul, 1) := by decide +kernel
theorem dX4_goes_17 : decode cX4_goes 17 = .ok (.if_icmp .ge 29, 3) := by decide +kernel
theorem dX4_goes_20 : decode cX4_goes 20 = .ok (.aload_n 0, 1) := by decide +kernel
theorem dX4_goes_21 : decode cX4_goes 21 = .ok (.getfield 9, 3) := by decide +kernel
theorem dX4_goes_24 : decode cX4_goes 24 = .ok (.bipush 15, 2) := by decide +kernel
theorem dX4_goes_26 : decode cX4_goes 26 = .ok (.iload_n 3, 1) := by decide +kernel
theorem dX4_goes_27 : decode cX4_goes 27 = .ok (.iadd, 1) := by decide +kernel
theorem dX4_goes_28 : decode cX4_goes 28 = .ok (.aload_n 0, 1) := by decide +kernel
theorem dX4_goes_29 : decode cX4_goes 29 = .ok (.getfield 9, 3) := by decide +kernel
theorem dX4_goes_32 : decode cX4_goes 32 = .ok (.bipush 15, 2) := by decide +kernel
theorem dX4_goes_34 : decode cX4_goes 34 = .ok (.iload_n 3, 1) := by decide +kernel
theorem dX4_goes_35 : decode cX4_goes 35 = .ok (.iadd, 1) := by decide +kernel
theorem dX4_goes_36 : decode cX4_goes 36 = .ok (.iconst 5, 1) := by decide +kernel
theorem dX4_goes_37 : decode cX4_goes 37 = .ok (.iadd, 1) := by decide +kernel
theorem dX4_goes_38 : decode cX4_goes 38 = .ok (.iaload, 1) := by decide +kernel
theorem dX4_goes_39 : decode cX4_goes 39 = .ok (.iastore, 1) := by decide +kernel
theorem dX4_goes_40 : decode cX4_goes 40 = .ok (.iinc 3 1, 3) := by decide +kernel
theorem dX4_goes_43 : decode cX4_goes 43 = .ok (.goto (-30), 3) := by decide +kernel
theorem dX4_goes_46 : decode cX4_goes 46 = .ok (.iconst 0, 1) := by decide +kernel
theorem dX4_goes_47 : decode cX4_goes 47 = .ok (.istore_n 3, 1) := by decide +kernel
theorem dX4_goes_48 : decode cX4_goes 48 = .ok (.iload_n 3, 1) := by decide +kernel
theorem dX4_goes_49 : decode cX4_goes 49 = .ok (.iconst 5, 1) := by decide +kernel
theorem dX4_goes_50 : decode cX4_goes 50 = .ok (.if_icmp .ge 16, 3) := by decide +kernel
theorem dX4_goes_53 : decode cX4_goes 53 = .ok (.aload_n 0, 1) := by decide +kernel
theorem dX4_goes_54 : decode cX4_goes 54 = .ok (.iload_n 2, 1) := by decide +kernel
theorem dX4_goes_55 : decode cX4_goes 55 = .ok (.iload_n 3, 1) := by decide +kernel
theorem dX4_goes_56 : decode cX4_goes 56 = .ok (.iconst 0, 1) := by decide +kernel
theorem dX4_goes_57 : decode cX4_goes 57 = .ok (.invokevirtual 92, 3) := by decide +kernel
theorem dX4_goes_60 : decode cX4_goes 60 = .ok (.iinc 3 1, 3) := by decide +kernel
theorem dX4_goes_63 : decode cX4_goes 63 = .ok (.goto (-15), 3) := by decide +kernel
theorem dX4_goes_66 : decode cX4_goes 66 = .ok (.aload_n 0, 1) := by decide +kernel
theorem dX4_goes_67 : decode cX4_goes 67 = .ok (.getfield 9, 3) := by decide +kernel
theorem dX4_goes_70 : decode cX4_goes 70 = .ok (.iconst 0, 1) := by decide +kernel
theorem dX4_goes_71 : decode cX4_goes 71 = .ok (.iload_n 2, 1) := by decide +kernel
theorem dX4_goes_72 : decode cX4_goes 72 = .ok (.iastore, 1) := by decide +kernel
theorem dX4_goes_73 : decode cX4_goes 73 = .ok (.return_, 1) := by decide +kernel
theorem dX4_removes_0 : decode cX4_removes 0 = .ok (.aload_n 0, 1) := by decide +kernel
theorem dX4_removes_1 : decode cX4_removes 1 = .ok (.iload_n 1, 1) := by decide +kernel
theorem dX4_removes_2 : decode cX4_removes 2 = .ok (.invokevirtual 107, 3) := by decide +kernel
theorem dX4_removes_5 : decode cX4_removes 5 = .ok (.istore_n 2, 1) := by decide +kernel
theorem dX4_removes_6 : decode cX4_removes 6 = .ok (.iload_n 2, 1) := by decide +kernel
theorem dX4_removes_7 : decode cX4_removes 7 = .ok (.ifCond .ge 5, 3) := by decide +kernel
theorem dX4_removes_10 : decode cX4_removes 10 = .ok (.iconst 1, 1) := by decide +kernel
theorem dX4_removes_11 : decode cX4_removes 11 = .ok (.ireturn, 1) := by decide +kernel
theorem dX4_removes_12 : decode cX4_removes 12 = .ok (.aload_n 0, 1) := by decide +kernel
theorem dX4_removes_13 : decode cX4_removes 13 = .ok (.aload_n 0, 1) := by decide +kernel
theorem dX4_removes_14 : decode cX4_removes 14 = .ok (.iload_n 2, 1) := by decide +kernel
theorem dX4_removes_15 : decode cX4_removes 15 = .ok (.iconst 1, 1) := by decide +kernel
theorem dX4_removes_16 : decode cX4_removes 16 = .ok (.invokevirtual 53, 3) := by decide +kernel
theorem dX4_removes_19 : decode cX4_removes 19 = .ok (.putfield 37, 3) := by decide +kernel
theorem dX4_removes_22 : decode cX4_removes 22 = .ok (.aload_n 0, 1) := by decide +kernel
theorem dX4_removes_23 : decode cX4_removes 23 = .ok (.iload_n 2, 1) := by decide +kernel
theorem dX4_removes_24 : decode cX4_removes 24 = .ok (.invokevirtual 110, 3) := by decide +kernel
theorem dX4_removes_27 : decode cX4_removes 27 = .ok (.iconst 0, 1) := by decide +kernel
theorem dX4_removes_28 : decode cX4_removes 28 = .ok (.ireturn, 1) := by decide +kernel
theorem dX4_removeMark_0 : decode cX4_removeMark 0 = .ok (.aload_n 0, 1) := by decide +kernel
theorem dX4_removeMark_1 : decode cX4_removeMark 1 = .ok (.invokevirtual 96, 3) := by decide +kernel
theorem dX4_removeMark_4 : decode cX4_removeMark 4 = .ok (.aload_n 0, 1) := by decide +kernel
theorem dX4_removeMark_5 : decode cX4_removeMark 5 = .ok (.aload_n 0, 1) := by decide +kernel
theorem dX4_removeMark_6 : decode cX4_removeMark 6 = .ok (.iload_n 1, 1) := by decide +kernel
theorem dX4_removeMark_7 : decode cX4_removeMark 7 = .ok (.invokevirtual 114, 3) := by decide +kernel
theorem dX4_removeMark_10 : decode cX4_removeMark 10 = .ok (.iconst 1, 1) := by decide +kernel
theorem dX4_removeMark_11 : decode cX4_removeMark 11 = .ok (.iconst 0, 1) := by decide +kernel
theorem dX4_removeMark_12 : decode cX4_removeMark 12 = .ok (.iconst 0, 1) := by decide +kernel
theorem dX4_removeMark_13 : decode cX4_removeMark 13 = .ok (.invokevirtual 103, 3) := by decide +kernel
theorem dX4_removeMark_16 : decode cX4_removeMark 16 = .ok (.ireturn, 1) := by decide +kernel
theorem dX4_moves_0 : decode cX4_moves 0 = .ok (.aload_n 0, 1) := by decide +kernel
theorem dX4_moves_1 : decode cX4_moves 1 = .ok (.iload_n 1, 1) := by decide +kernel
theorem dX4_moves_2 : decode cX4_moves 2 = .ok (.invokevirtual 107, 3) := by decide +kernel
theorem dX4_moves_5 : decode cX4_moves 5 = .ok (.istore_n 3, 1) := by decide +kernel
theorem dX4_moves_6 : decode cX4_moves 6 = .ok (.iload_n 3, 1) := by decide +kernel
theorem dX4_moves_7 : decode cX4_moves 7 = .ok (.ifCond .lt 10, 3) := by decide +kernel
theorem dX4_moves_10 : decode cX4_moves 10 = .ok (.iload_n 2, 1) := by decide +kernel
theorem dX4_moves_11 : decode cX4_moves 11 = .ok (.invokestatic 74, 3) := by decide +kernel
theorem dX4_moves_14 : decode cX4_moves 14 = .ok (.ifCond .ne 5, 3) := by decide +kernel
theorem dX4_moves_17 : decode cX4_moves 17 = .ok (.iconst 1, 1) := by decide +kernel
theorem dX4_moves_18 : decode cX4_moves 18 = .ok (.ireturn, 1) := by decide +kernel
theorem dX4_moves_19 : decode cX4_moves 19 = .ok (.aload_n 0, 1) := by decide +kernel
theorem dX4_moves_20 : decode cX4_moves 20 = .ok (.iload_n 2, 1) := by decide +kernel
theorem dX4_moves_21 : decode cX4_moves 21 = .ok (.invokevirtual 82, 3) := by decide +kernel
theorem dX4_moves_24 : decode cX4_moves 24 = .ok (.istore 4, 2) := by decide +kernel
theorem dX4_moves_26 : decode cX4_moves 26 = .ok (.aload_n 0, 1) := by decide +kernel
theorem dX4_moves_27 : decode cX4_moves 27 = .ok (.aload_n 0, 1) := by decide +kernel
theorem dX4_moves_28 : decode cX4_moves 28 = .ok (.iload_n 3, 1) := by decide +kernel
theorem dX4_moves_29 : decode cX4_moves 29 = .ok (.iconst 3, 1) := by decide +kernel
theorem dX4_moves_30 : decode cX4_moves 30 = .ok (.invokevirtual 53, 3) := by decide +kernel
theorem dX4_moves_33 : decode cX4_moves 33 = .ok (.ifCond .ne 7, 3) := by decide +kernel
theorem dX4_moves_36 : decode cX4_moves 36 = .ok (.iconst 1, 1) := by decide +kernel
theorem dX4_moves_37 : decode cX4_moves 37 = .ok (.goto 4, 3) := by decide +kernel
theorem dX4_moves_40 : decode cX4_moves 40 = .ok (.iconst 0, 1) := by decide +kernel
theorem dX4_moves_41 : decode cX4_moves 41 = .ok (.iconst 4, 1) := by decide +kernel
theorem dX4_moves_42 : decode cX4_moves 42 = .ok (.iload_n 1, 1) := by decide +kernel
theorem dX4_moves_43 : decode cX4_moves 43 = .ok (.invokevirtual 85, 3) := by decide +kernel
theorem dX4_moves_46 : decode cX4_moves 46 = .ok (.ifCond .ne 27, 3) := by decide +kernel
theorem dX4_moves_49 : decode cX4_moves 49 = .ok (.aload_n 0, 1) := by decide +kernel
theorem dX4_moves_50 : decode cX4_moves 50 = .ok (.iload 4, 2) := by decide +kernel
theorem dX4_moves_52 : decode cX4_moves 52 = .ok (.ifCond .lt 7, 3) := by decide +kernel
theorem dX4_moves_55 : decode cX4_moves 55 = .ok (.iconst 1, 1) := by decide +kernel
theorem dX4_moves_56 : decode cX4_moves 56 = .ok (.goto 4, 3) := by decide +kernel
theorem dX4_moves_59 : decode cX4_moves 59 = .ok (.iconst 0, 1) := by decide +kernel
theorem dX4_moves_60 : decode cX4_moves 60 = .ok (.iconst 3, 1) := by decide +kernel
theorem dX4_moves_61 : decode cX4_moves 61 = .ok (.aload_n 0, 1) := by decide +kernel
theorem dX4_moves_62 : decode cX4_moves 62 = .ok (.iload 4, 2) := by decide +kernel
theorem dX4_moves_64 : decode cX4_moves 64 = .ok (.invokevirtual 89, 3) := by decide +kernel
theorem dX4_moves_67 : decode cX4_moves 67 = .ok (.invokevirtual 85, 3) := by decide +kernel
theorem dX4_moves_70 : decode cX4_moves 70 = .ok (.ifCond .eq 5, 3) := by decide +kernel
theorem dX4_moves_73 : decode cX4_moves 73 = .ok (.iconst 3, 1) := by decide +kernel
theorem dX4_moves_74 : decode cX4_moves 74 = .ok (.ireturn, 1) := by decide +kernel
theorem dX4_moves_75 : decode cX4_moves 75 = .ok (.aload_n 0, 1) := by decide +kernel
theorem dX4_moves_76 : decode cX4_moves 76 = .ok (.aload_n 0, 1) := by decide +kernel
theorem dX4_moves_77 : decode cX4_moves 77 = .ok (.iload_n 3, 1) := by decide +kernel
theorem dX4_moves_78 : decode cX4_moves 78 = .ok (.iconst 1, 1) := by decide +kernel
theorem dX4_moves_79 : decode cX4_moves 79 = .ok (.invokevirtual 53, 3) := by decide +kernel
theorem dX4_moves_82 : decode cX4_moves 82 = .ok (.putfield 37, 3) := by decide +kernel
theorem dX4_moves_85 : decode cX4_moves 85 = .ok (.aload_n 0, 1) := by decide +kernel
theorem dX4_moves_86 : decode cX4_moves 86 = .ok (.iload_n 3, 1) := by decide +kernel
theorem dX4_moves_87 : decode cX4_moves 87 = .ok (.iconst 1, 1) := by decide +kernel
theorem dX4_moves_88 : decode cX4_moves 88 = .ok (.iload_n 2, 1) := by decide +kernel
theorem dX4_moves_89 : decode cX4_moves 89 = .ok (.invokevirtual 92, 3) := by decide +kernel
theorem dX4_moves_92 : decode cX4_moves 92 = .ok (.iconst 0, 1) := by decide +kernel
theorem dX4_moves_93 : decode cX4_moves 93 = .ok (.ireturn, 1) := by decide +kernel
theorem dX4_moveRibbon_0 : decode cX4_moveRibbon 0 = .ok (.aload_n 0, 1) := by decide +kernel
theorem dX4_moveRibbon_1 : decode cX4_moveRibbon 1 = .ok (.invokevirtual 96, 3) := by decide +kernel
theorem dX4_moveRibbon_4 : decode cX4_moveRibbon 4 = .ok (.aload_n 0, 1) := by decide +kernel
theorem dX4_moveRibbon_5 : decode cX4_moveRibbon 5 = .ok (.aload_n 0, 1) := by decide +kernel
theorem dX4_moveRibbon_6 : decode cX4_moveRibbon 6 = .ok (.iload_n 1, 1) := by decide +kernel
theorem dX4_moveRibbon_7 : decode cX4_moveRibbon 7 = .ok (.iload_n 2, 1) := by decide +kernel
theorem dX4_moveRibbon_8 : decode cX4_moveRibbon 8 = .ok (.invokevirtual 117, 3) := by decide +kernel
theorem dX4_moveRibbon_11 : decode cX4_moveRibbon 11 = .ok (.iconst 1, 1) := by decide +kernel
theorem dX4_moveRibbon_12 : decode cX4_moveRibbon 12 = .ok (.iconst 0, 1) := by decide +kernel
theorem dX4_moveRibbon_13 : decode cX4_moveRibbon 13 = .ok (.iconst 2, 1) := by decide +kernel
theorem dX4_moveRibbon_14 : decode cX4_moveRibbon 14 = .ok (.invokevirtual 103, 3) := by decide +kernel
theorem dX4_moveRibbon_17 : decode cX4_moveRibbon 17 = .ok (.ireturn, 1) := by decide +kernel
theorem dX4_swaps_0 : decode cX4_swaps 0 = .ok (.aload_n 0, 1) := by decide +kernel
theorem dX4_swaps_1 : decode cX4_swaps 1 = .ok (.iload_n 1, 1) := by decide +kernel
theorem dX4_swaps_2 : decode cX4_swaps 2 = .ok (.invokevirtual 107, 3) := by decide +kernel
theorem dX4_swaps_5 : decode cX4_swaps 5 = .ok (.istore_n 3, 1) := by decide +kernel
theorem dX4_swaps_6 : decode cX4_swaps 6 = .ok (.aload_n 0, 1) := by decide +kernel
theorem dX4_swaps_7 : decode cX4_swaps 7 = .ok (.iload_n 2, 1) := by decide +kernel
theorem dX4_swaps_8 : decode cX4_swaps 8 = .ok (.invokevirtual 107, 3) := by decide +kernel
theorem dX4_swaps_11 : decode cX4_swaps 11 = .ok (.istore 4, 2) := by decide +kernel
theorem dX4_swaps_13 : decode cX4_swaps 13 = .ok (.iload_n 3, 1) := by decide +kernel
theorem dX4_swaps_14 : decode cX4_swaps 14 = .ok (.ifCond .lt 8, 3) := by decide +kernel
theorem dX4_swaps_17 : decode cX4_swaps 17 = .ok (.iload 4, 2) := by decide +kernel
theorem dX4_swaps_19 : decode cX4_swaps 19 = .ok (.ifCond .ge 5, 3) := by decide +kernel
theorem dX4_swaps_22 : decode cX4_swaps 22 = .ok (.iconst 1, 1) := by decide +kernel
theorem dX4_swaps_23 : decode cX4_swaps 23 = .ok (.ireturn, 1) := by decide +kernel
theorem dX4_swaps_24 : decode cX4_swaps 24 = .ok (.aload_n 0, 1) := by decide +kernel
theorem dX4_swaps_25 : decode cX4_swaps 25 = .ok (.aload_n 0, 1) := by decide +kernel
theorem dX4_swaps_26 : decode cX4_swaps 26 = .ok (.iload_n 3, 1) := by decide +kernel
theorem dX4_swaps_27 : decode cX4_swaps 27 = .ok (.iconst 3, 1) := by decide +kernel
theorem dX4_swaps_28 : decode cX4_swaps 28 = .ok (.invokevirtual 53, 3) := by decide +kernel
theorem dX4_swaps_31 : decode cX4_swaps 31 = .ok (.ifCond .ne 7, 3) := by decide +kernel
theorem dX4_swaps_34 : decode cX4_swaps 34 = .ok (.iconst 1, 1) := by decide +kernel
theorem dX4_swaps_35 : decode cX4_swaps 35 = .ok (.goto 4, 3) := by decide +kernel
theorem dX4_swaps_38 : decode cX4_swaps 38 = .ok (.iconst 0, 1) := by decide +kernel
theorem dX4_swaps_39 : decode cX4_swaps 39 = .ok (.iconst 4, 1) := by decide +kernel
theorem dX4_swaps_40 : decode cX4_swaps 40 = .ok (.iload_n 1, 1) := by decide +kernel
theorem dX4_swaps_41 : decode cX4_swaps 41 = .ok (.invokevirtual 85, 3) := by decide +kernel
theorem dX4_swaps_44 : decode cX4_swaps 44 = .ok (.ifCond .ne 46, 3) := by decide +kernel
theorem dX4_swaps_47 : decode cX4_swaps 47 = .ok (.aload_n 0, 1) := by decide +kernel
theorem dX4_swaps_48 : decode cX4_swaps 48 = .ok (.aload_n 0, 1) := by decide +kernel
theorem dX4_swaps_49 : decode cX4_swaps 49 = .ok (.iload 4, 2) := by decide +kernel
theorem dX4_swaps_51 : decode cX4_swaps 51 = .ok (.iconst 3, 1) := by decide +kernel
theorem dX4_swaps_52 : decode cX4_swaps 52 = .ok (.invokevirtual 53, 3) := by decide +kernel
theorem dX4_swaps_55 : decode cX4_swaps 55 = .ok (.ifCond .ne 7, 3) := by decide +kernel
theorem dX4_swaps_58 : decode cX4_swaps 58 = .ok (.iconst 1, 1) := by decide +kernel
theorem dX4_swaps_59 : decode cX4_swaps 59 = .ok (.goto 4, 3) := by decide +kernel
theorem dX4_swaps_62 : decode cX4_swaps 62 = .ok (.iconst 0, 1) := by decide +kernel
theorem dX4_swaps_63 : decode cX4_swaps 63 = .ok (.iconst 4, 1) := by decide +kernel
theorem dX4_swaps_64 : decode cX4_swaps 64 = .ok (.iload_n 2, 1) := by decide +kernel
theorem dX4_swaps_65 : decode cX4_swaps 65 = .ok (.invokevirtual 85, 3) := by decide +kernel
theorem dX4_swaps_68 : decode cX4_swaps 68 = .ok (.ifCond .ne 22, 3) := by decide +kernel
theorem dX4_swaps_71 : decode cX4_swaps 71 = .ok (.aload_n 0, 1) := by decide +kernel
theorem dX4_swaps_72 : decode cX4_swaps 72 = .ok (.iload_n 1, 1) := by decide +kernel
theorem dX4_swaps_73 : decode cX4_swaps 73 = .ok (.iload_n 2, 1) := by decide +kernel
theorem dX4_swaps_74 : decode cX4_swaps 74 = .ok (.if_icmp .ne 7, 3) := by decide +kernel
theorem dX4_swaps_77 : decode cX4_swaps 77 = .ok (.iconst 1, 1) := by decide +kernel
theorem dX4_swaps_78 : decode cX4_swaps 78 = .ok (.goto 4, 3) := by decide +kernel
theorem dX4_swaps_81 : decode cX4_swaps 81 = .ok (.iconst 0, 1) := by decide +kernel
theorem dX4_swaps_82 : decode cX4_swaps 82 = .ok (.iconst 5, 1) := by decide +kernel
theorem dX4_swaps_83 : decode cX4_swaps 83 = .ok (.iload_n 1, 1) := by decide +kernel
theorem dX4_swaps_84 : decode cX4_swaps 84 = .ok (.invokevirtual 85, 3) := by decide +kernel
theorem dX4_swaps_87 : decode cX4_swaps 87 = .ok (.ifCond .eq 5, 3) := by decide +kernel
theorem dX4_swaps_90 : decode cX4_swaps 90 = .ok (.iconst 3, 1) := by decide +kernel
theorem dX4_swaps_91 : decode cX4_swaps 91 = .ok (.ireturn, 1) := by decide +kernel
theorem dX4_swaps_92 : decode cX4_swaps 92 = .ok (.aload_n 0, 1) := by decide +kernel
theorem dX4_swaps_93 : decode cX4_swaps 93 = .ok (.iload_n 3, 1) := by decide +kernel
theorem dX4_swaps_94 : decode cX4_swaps 94 = .ok (.iconst 3, 1) := by decide +kernel
theorem dX4_swaps_95 : decode cX4_swaps 95 = .ok (.invokevirtual 53, 3) := by decide +kernel
theorem dX4_swaps_98 : decode cX4_swaps 98 = .ok (.istore 5, 2) := by decide +kernel
theorem dX4_swaps_100 : decode cX4_swaps 100 = .ok (.aload_n 0, 1) := by decide +kernel
theorem dX4_swaps_101 : decode cX4_swaps 101 = .ok (.iload_n 3, 1) := by decide +kernel
theorem dX4_swaps_102 : decode cX4_swaps 102 = .ok (.iconst 3, 1) := by decide +kernel
theorem dX4_swaps_103 : decode cX4_swaps 103 = .ok (.aload_n 0, 1) := by decide +kernel
theorem dX4_swaps_104 : decode cX4_swaps 104 = .ok (.iload 4, 2) := by decide +kernel
theorem dX4_swaps_106 : decode cX4_swaps 106 = .ok (.iconst 3, 1) := by decide +kernel
theorem dX4_swaps_107 : decode cX4_swaps 107 = .ok (.invokevirtual 53, 3) := by decide +kernel
theorem dX4_swaps_110 : decode cX4_swaps 110 = .ok (.invokevirtual 92, 3) := by decide +kernel
theorem dX4_swaps_113 : decode cX4_swaps 113 = .ok (.aload_n 0, 1) := by decide +kernel
theorem dX4_swaps_114 : decode cX4_swaps 114 = .ok (.iload 4, 2) := by decide +kernel
theorem dX4_swaps_116 : decode cX4_swaps 116 = .ok (.iconst 3, 1) := by decide +kernel
theorem dX4_swaps_117 : decode cX4_swaps 117 = .ok (.iload 5, 2) := by decide +kernel
theorem dX4_swaps_119 : decode cX4_swaps 119 = .ok (.invokevirtual 92, 3) := by decide +kernel
theorem dX4_swaps_122 : decode cX4_swaps 122 = .ok (.aload_n 0, 1) := by decide +kernel
theorem dX4_swaps_123 : decode cX4_swaps 123 = .ok (.aload_n 0, 1) := by decide +kernel
theorem dX4_swaps_124 : decode cX4_swaps 124 = .ok (.iload_n 3, 1) := by decide +kernel
theorem dX4_swaps_125 : decode cX4_swaps 125 = .ok (.iconst 3, 1) := by decide +kernel
theorem dX4_swaps_126 : decode cX4_swaps 126 = .ok (.invokevirtual 53, 3) := by decide +kernel
theorem dX4_swaps_129 : decode cX4_swaps 129 = .ok (.iconst 1, 1) := by decide +kernel
theorem dX4_swaps_130 : decode cX4_swaps 130 = .ok (.isub, 1) := by decide +kernel
theorem dX4_swaps_131 : decode cX4_swaps 131 = .ok (.putfield 37, 3) := by decide +kernel
theorem dX4_swaps_134 : decode cX4_swaps 134 = .ok (.iconst 0, 1) := by decide +kernel
theorem dX4_swaps_135 : decode cX4_swaps 135 = .ok (.ireturn, 1) := by decide +kernel
theorem dX4_swapSeats_0 : decode cX4_swapSeats 0 = .ok (.aload_n 0, 1) := by decide +kernel
theorem dX4_swapSeats_1 : decode cX4_swapSeats 1 = .ok (.invokevirtual 96, 3) := by decide +kernel
theorem dX4_swapSeats_4 : decode cX4_swapSeats 4 = .ok (.aload_n 0, 1) := by decide +kernel
theorem dX4_swapSeats_5 : decode cX4_swapSeats 5 = .ok (.aload_n 0, 1) := by decide +kernel
theorem dX4_swapSeats_6 : decode cX4_swapSeats 6 = .ok (.iload_n 1, 1) := by decide +kernel
theorem dX4_swapSeats_7 : decode cX4_swapSeats 7 = .ok (.iload_n 2, 1) := by decide +kernel
theorem dX4_swapSeats_8 : decode cX4_swapSeats 8 = .ok (.invokevirtual 120, 3) := by decide +kernel
theorem dX4_swapSeats_11 : decode cX4_swapSeats 11 = .ok (.iconst 1, 1) := by decide +kernel
theorem dX4_swapSeats_12 : decode cX4_swapSeats 12 = .ok (.iconst 0, 1) := by decide +kernel
theorem dX4_swapSeats_13 : decode cX4_swapSeats 13 = .ok (.iconst 2, 1) := by decide +kernel
theorem dX4_swapSeats_14 : decode cX4_swapSeats 14 = .ok (.invokevirtual 103, 3) := by decide +kernel
theorem dX4_swapSeats_17 : decode cX4_swapSeats 17 = .ok (.ireturn, 1) := by decide +kernel
theorem dX4_starts_0 : decode cX4_starts 0 = .ok (.iload_n 1, 1) := by decide +kernel
theorem dX4_starts_1 : decode cX4_starts 1 = .ok (.invokestatic 74, 3) := by decide +kernel
theorem dX4_starts_4 : decode cX4_starts 4 = .ok (.ifCond .ne 5, 3) := by decide +kernel
theorem dX4_starts_7 : decode cX4_starts 7 = .ok (.iconst 1, 1) := by decide +kernel
theorem dX4_starts_8 : decode cX4_starts 8 = .ok (.ireturn, 1) := by decide +kernel
theorem dX4_starts_9 : decode cX4_starts 9 = .ok (.aload_n 0, 1) := by decide +kernel
theorem dX4_starts_10 : decode cX4_starts 10 = .ok (.iload_n 1, 1) := by decide +kernel
theorem dX4_starts_11 : decode cX4_starts 11 = .ok (.invokevirtual 61, 3) := by decide +kernel
theorem dX4_starts_14 : decode cX4_starts 14 = .ok (.istore_n 2, 1) := by decide +kernel
theorem dX4_starts_15 : decode cX4_starts 15 = .ok (.aload_n 0, 1) := by decide +kernel
theorem dX4_starts_16 : decode cX4_starts 16 = .ok (.aload_n 0, 1) := by decide +kernel
theorem dX4_starts_17 : decode cX4_starts 17 = .ok (.getfield 9, 3) := by decide +kernel
theorem dX4_starts_20 : decode cX4_starts 20 = .ok (.iconst 2, 1) := by decide +kernel
theorem dX4_starts_21 : decode cX4_starts 21 = .ok (.iaload, 1) := by decide +kernel
theorem dX4_starts_22 : decode cX4_starts 22 = .ok (.bipush 8, 2) := by decide +kernel
theorem dX4_starts_24 : decode cX4_starts 24 = .ok (.if_icmp .ne 7, 3) := by decide +kernel
theorem dX4_starts_27 : decode cX4_starts 27 = .ok (.iconst 1, 1) := by decide +kernel
theorem dX4_starts_28 : decode cX4_starts 28 = .ok (.goto 4, 3) := by decide +kernel
theorem dX4_starts_31 : decode cX4_starts 31 = .ok (.iconst 0, 1) := by decide +kernel
theorem dX4_starts_32 : decode cX4_starts 32 = .ok (.bipush 6, 2) := by decide +kernel
theorem dX4_starts_34 : decode cX4_starts 34 = .ok (.bipush 8, 2) := by decide +kernel
theorem dX4_starts_36 : decode cX4_starts 36 = .ok (.invokevirtual 85, 3) := by decide +kernel
theorem dX4_starts_39 : decode cX4_starts 39 = .ok (.ifCond .ne 27, 3) := by decide +kernel
theorem dX4_starts_42 : decode cX4_starts 42 = .ok (.aload_n 0, 1) := by decide +kernel
theorem dX4_starts_43 : decode cX4_starts 43 = .ok (.aload_n 0, 1) := by decide +kernel
theorem dX4_starts_44 : decode cX4_starts 44 = .ok (.iload_n 2, 1) := by decide +kernel
theorem dX4_starts_45 : decode cX4_starts 45 = .ok (.invokevirtual 123, 3) := by decide +kernel
theorem dX4_starts_48 : decode cX4_starts 48 = .ok (.iload_n 1, 1) := by decide +kernel
theorem dX4_starts_49 : decode cX4_starts 49 = .ok (.if_icmp .ne 7, 3) := by decide +kernel
theorem dX4_starts_52 : decode cX4_starts 52 = .ok (.iconst 1, 1) := by decide +kernel
theorem dX4_starts_53 : decode cX4_starts 53 = .ok (.goto 4, 3) := by decide +kernel
theorem dX4_starts_56 : decode cX4_starts 56 = .ok (.iconst 0, 1) := by decide +kernel
theorem dX4_starts_57 : decode cX4_starts 57 = .ok (.bipush 7, 2) := by decide +kernel
theorem dX4_starts_59 : decode cX4_starts 59 = .ok (.iload_n 2, 1) := by decide +kernel
theorem dX4_starts_60 : decode cX4_starts 60 = .ok (.invokevirtual 85, 3) := by decide +kernel
theorem dX4_starts_63 : decode cX4_starts 63 = .ok (.ifCond .eq 5, 3) := by decide +kernel
theorem dX4_starts_66 : decode cX4_starts 66 = .ok (.iconst 3, 1) := by decide +kernel
theorem dX4_starts_67 : decode cX4_starts 67 = .ok (.ireturn, 1) := by decide +kernel
theorem dX4_starts_68 : decode cX4_starts 68 = .ok (.aload_n 0, 1) := by decide +kernel
theorem dX4_starts_69 : decode cX4_starts 69 = .ok (.getfield 9, 3) := by decide +kernel
theorem dX4_starts_72 : decode cX4_starts 72 = .ok (.iconst 2, 1) := by decide +kernel
theorem dX4_starts_73 : decode cX4_starts 73 = .ok (.iaload, 1) := by decide +kernel
theorem dX4_starts_74 : decode cX4_starts 74 = .ok (.istore_n 3, 1) := by decide +kernel
theorem dX4_starts_75 : decode cX4_starts 75 = .ok (.iload_n 3, 1) := by decide +kernel
theorem dX4_starts_76 : decode cX4_starts 76 = .ok (.iload_n 2, 1) := by decide +kernel
theorem dX4_starts_77 : decode cX4_starts 77 = .ok (.iconst 1, 1) := by decide +kernel
theorem dX4_starts_78 : decode cX4_starts 78 = .ok (.iadd, 1) := by decide +kernel
theorem dX4_starts_79 : decode cX4_starts 79 = .ok (.if_icmp .le 29, 3) := by decide +kernel
theorem dX4_starts_82 : decode cX4_starts 82 = .ok (.aload_n 0, 1) := by decide +kernel
theorem dX4_starts_83 : decode cX4_starts 83 = .ok (.getfield 9, 3) := by decide +kernel
theorem dX4_starts_86 : decode cX4_starts 86 = .ok (.bipush 7, 2) := by decide +kernel
theorem dX4_starts_88 : decode cX4_starts 88 = .ok (.iload_n 3, 1) := by decide +kernel
theorem dX4_starts_89 : decode cX4_starts 89 = .ok (.iadd, 1) := by decide +kernel
theorem dX4_starts_90 : decode cX4_starts 90 = .ok (.aload_n 0, 1) := by decide +kernel
theorem dX4_starts_91 : decode cX4_starts 91 = .ok (.getfield 9, 3) := by decide +kernel
theorem dX4_starts_94 : decode cX4_starts 94 = .ok (.bipush 7, 2) := by decide +kernel
theorem dX4_starts_96 : decode cX4_starts 96 = .ok (.iload_n 3, 1) := by decide +kernel
theorem dX4_starts_97 : decode cX4_starts 97 = .ok (.iadd, 1) := by decide +kernel
theorem dX4_starts_98 : decode cX4_starts 98 = .ok (.iconst 1, 1) := by decide +kernel
theorem dX4_starts_99 : decode cX4_starts 99 = .ok (.isub, 1) := by decide +kernel
theorem dX4_starts_100 : decode cX4_starts 100 = .ok (.iaload, 1) := by decide +kernel
theorem dX4_starts_101 : decode cX4_starts 101 = .ok (.iastore, 1) := by decide +kernel
theorem dX4_starts_102 : decode cX4_starts 102 = .ok (.iinc 3 (-1), 3) := by decide +kernel
theorem dX4_starts_105 : decode cX4_starts 105 = .ok (.goto (-30), 3) := by decide +kernel
theorem dX4_starts_108 : decode cX4_starts 108 = .ok (.aload_n 0, 1) := by decide +kernel
theorem dX4_starts_109 : decode cX4_starts 109 = .ok (.getfield 9, 3) := by decide +kernel
theorem dX4_starts_112 : decode cX4_starts 112 = .ok (.bipush 7, 2) := by decide +kernel
theorem dX4_starts_114 : decode cX4_starts 114 = .ok (.iload_n 2, 1) := by decide +kernel
theorem dX4_starts_115 : decode cX4_starts 115 = .ok (.iadd, 1) := by decide +kernel
theorem dX4_starts_116 : decode cX4_starts 116 = .ok (.iconst 1, 1) := by decide +kernel
theorem dX4_starts_117 : decode cX4_starts 117 = .ok (.iadd, 1) := by decide +kernel
theorem dX4_starts_118 : decode cX4_starts 118 = .ok (.iload_n 1, 1) := by decide +kernel
theorem dX4_starts_119 : decode cX4_starts 119 = .ok (.iastore, 1) := by decide +kernel
theorem dX4_starts_120 : decode cX4_starts 120 = .ok (.aload_n 0, 1) := by decide +kernel
theorem dX4_starts_121 : decode cX4_starts 121 = .ok (.getfield 9, 3) := by decide +kernel
theorem dX4_starts_124 : decode cX4_starts 124 = .ok (.iconst 2, 1) := by decide +kernel
theorem dX4_starts_125 : decode cX4_starts 125 = .ok (.dup2, 1) := by decide +kernel
theorem dX4_starts_126 : decode cX4_starts 126 = .ok (.iaload, 1) := by decide +kernel
theorem dX4_starts_127 : decode cX4_starts 127 = .ok (.iconst 1, 1) := by decide +kernel
theorem dX4_starts_128 : decode cX4_starts 128 = .ok (.iadd, 1) := by decide +kernel
theorem dX4_starts_129 : decode cX4_starts 129 = .ok (.iastore, 1) := by decide +kernel
theorem dX4_starts_130 : decode cX4_starts 130 = .ok (.aload_n 0, 1) := by decide +kernel
theorem dX4_starts_131 : decode cX4_starts 131 = .ok (.iload_n 2, 1) := by decide +kernel
theorem dX4_starts_132 : decode cX4_starts 132 = .ok (.iconst 1, 1) := by decide +kernel
theorem dX4_starts_133 : decode cX4_starts 133 = .ok (.iadd, 1) := by decide +kernel
theorem dX4_starts_134 : decode cX4_starts 134 = .ok (.putfield 37, 3) := by decide +kernel
theorem dX4_starts_137 : decode cX4_starts 137 = .ok (.iconst 0, 1) := by decide +kernel
theorem dX4_starts_138 : decode cX4_starts 138 = .ok (.ireturn, 1) := by decide +kernel
theorem dX4_startChapter_0 : decode cX4_startChapter 0 = .ok (.aload_n 0, 1) := by decide +kernel
theorem dX4_startChapter_1 : decode cX4_startChapter 1 = .ok (.invokevirtual 96, 3) := by decide +kernel
theorem dX4_startChapter_4 : decode cX4_startChapter 4 = .ok (.aload_n 0, 1) := by decide +kernel
theorem dX4_startChapter_5 : decode cX4_startChapter 5 = .ok (.aload_n 0, 1) := by decide +kernel
theorem dX4_startChapter_6 : decode cX4_startChapter 6 = .ok (.iload_n 1, 1) := by decide +kernel
theorem dX4_startChapter_7 : decode cX4_startChapter 7 = .ok (.invokevirtual 126, 3) := by decide +kernel
theorem dX4_startChapter_10 : decode cX4_startChapter 10 = .ok (.iconst 1, 1) := by decide +kernel
theorem dX4_startChapter_11 : decode cX4_startChapter 11 = .ok (.iconst 0, 1) := by decide +kernel
theorem dX4_startChapter_12 : decode cX4_startChapter 12 = .ok (.iconst 2, 1) := by decide +kernel
theorem dX4_startChapter_13 : decode cX4_startChapter 13 = .ok (.invokevirtual 103, 3) := by decide +kernel
theorem dX4_startChapter_16 : decode cX4_startChapter 16 = .ok (.ireturn, 1) := by decide +kernel
theorem dX4_votes_0 : decode cX4_votes 0 = .ok (.aload_n 0, 1) := by decide +kernel
theorem dX4_votes_1 : decode cX4_votes 1 = .ok (.iload_n 1, 1) := by decide +kernel
theorem dX4_votes_2 : decode cX4_votes 2 = .ok (.invokevirtual 129, 3) := by decide +kernel
theorem dX4_votes_5 : decode cX4_votes 5 = .ok (.ifCond .ne 5, 3) := by decide +kernel
theorem dX4_votes_8 : decode cX4_votes 8 = .ok (.iconst 1, 1) := by decide +kernel
theorem dX4_votes_9 : decode cX4_votes 9 = .ok (.ireturn, 1) := by decide +kernel
theorem dX4_votes_10 : decode cX4_votes 10 = .ok (.aload_n 0, 1) := by decide +kernel
theorem dX4_votes_11 : decode cX4_votes 11 = .ok (.aload_n 0, 1) := by decide +kernel
theorem dX4_votes_12 : decode cX4_votes 12 = .ok (.getfield 9, 3) := by decide +kernel
theorem dX4_votes_15 : decode cX4_votes 15 = .ok (.iconst 2, 1) := by decide +kernel
theorem dX4_votes_16 : decode cX4_votes 16 = .ok (.iaload, 1) := by decide +kernel
theorem dX4_votes_17 : decode cX4_votes 17 = .ok (.iconst 1, 1) := by decide +kernel
theorem dX4_votes_18 : decode cX4_votes 18 = .ok (.if_icmp .ne 7, 3) := by decide +kernel
theorem dX4_votes_21 : decode cX4_votes 21 = .ok (.iconst 1, 1) := by decide +kernel
theorem dX4_votes_22 : decode cX4_votes 22 = .ok (.goto 4, 3) := by decide +kernel
theorem dX4_votes_25 : decode cX4_votes 25 = .ok (.iconst 0, 1) := by decide +kernel
theorem dX4_votes_26 : decode cX4_votes 26 = .ok (.bipush 8, 2) := by decide +kernel
theorem dX4_votes_28 : decode cX4_votes 28 = .ok (.iconst 0, 1) := by decide +kernel
theorem dX4_votes_29 : decode cX4_votes 29 = .ok (.invokevirtual 85, 3) := by decide +kernel
theorem dX4_votes_32 : decode cX4_votes 32 = .ok (.ifCond .eq 5, 3) := by decide +kernel
theorem dX4_votes_35 : decode cX4_votes 35 = .ok (.iconst 3, 1) := by decide +kernel
theorem dX4_votes_36 : decode cX4_votes 36 = .ok (.ireturn, 1) := by decide +kernel
theorem dX4_votes_37 : decode cX4_votes 37 = .ok (.aload_n 0, 1) := by decide +kernel
theorem dX4_votes_38 : decode cX4_votes 38 = .ok (.getfield 9, 3) := by decide +kernel
theorem dX4_votes_41 : decode cX4_votes 41 = .ok (.iconst 4, 1) := by decide +kernel
theorem dX4_votes_42 : decode cX4_votes 42 = .ok (.dup2, 1) := by decide +kernel
theorem dX4_votes_43 : decode cX4_votes 43 = .ok (.iaload, 1) := by decide +kernel
theorem dX4_votes_44 : decode cX4_votes 44 = .ok (.iconst 1, 1) := by decide +kernel
theorem dX4_votes_45 : decode cX4_votes 45 = .ok (.iadd, 1) := by decide +kernel
theorem dX4_votes_46 : decode cX4_votes 46 = .ok (.iastore, 1) := by decide +kernel
theorem dX4_votes_47 : decode cX4_votes 47 = .ok (.aload_n 0, 1) := by decide +kernel
theorem dX4_votes_48 : decode cX4_votes 48 = .ok (.aload_n 0, 1) := by decide +kernel
theorem dX4_votes_49 : decode cX4_votes 49 = .ok (.iload_n 1, 1) := by decide +kernel
theorem dX4_votes_50 : decode cX4_votes 50 = .ok (.invokevirtual 132, 3) := by decide +kernel
theorem dX4_votes_53 : decode cX4_votes 53 = .ok (.ifCond .eq 7, 3) := by decide +kernel
theorem dX4_votes_56 : decode cX4_votes 56 = .ok (.iconst 1, 1) := by decide +kernel
theorem dX4_votes_57 : decode cX4_votes 57 = .ok (.goto 4, 3) := by decide +kernel
theorem dX4_votes_60 : decode cX4_votes 60 = .ok (.iconst 0, 1) := by decide +kernel
theorem dX4_votes_61 : decode cX4_votes 61 = .ok (.putfield 37, 3) := by decide +kernel
theorem dX4_votes_64 : decode cX4_votes 64 = .ok (.aload_n 0, 1) := by decide +kernel
theorem dX4_votes_65 : decode cX4_votes 65 = .ok (.getfield 37, 3) := by decide +kernel
theorem dX4_votes_68 : decode cX4_votes 68 = .ok (.ifCond .ne 5, 3) := by decide +kernel
theorem dX4_votes_71 : decode cX4_votes 71 = .ok (.iconst 0, 1) := by decide +kernel
theorem dX4_votes_72 : decode cX4_votes 72 = .ok (.ireturn, 1) := by decide +kernel
theorem dX4_votes_73 : decode cX4_votes 73 = .ok (.aload_n 0, 1) := by decide +kernel
theorem dX4_votes_74 : decode cX4_votes 74 = .ok (.getfield 9, 3) := by decide +kernel
theorem dX4_votes_77 : decode cX4_votes 77 = .ok (.iconst 5, 1) := by decide +kernel
theorem dX4_votes_78 : decode cX4_votes 78 = .ok (.dup2, 1) := by decide +kernel
theorem dX4_votes_79 : decode cX4_votes 79 = .ok (.iaload, 1) := by decide +kernel
theorem dX4_votes_80 : decode cX4_votes 80 = .ok (.iconst 1, 1) := by decide +kernel
theorem dX4_votes_81 : decode cX4_votes 81 = .ok (.iadd, 1) := by decide +kernel
theorem dX4_votes_82 : decode cX4_votes 82 = .ok (.iastore, 1) := by decide +kernel
theorem dX4_votes_83 : decode cX4_votes 83 = .ok (.aload_n 0, 1) := by decide +kernel
theorem dX4_votes_84 : decode cX4_votes 84 = .ok (.getfield 9, 3) := by decide +kernel
theorem dX4_votes_87 : decode cX4_votes 87 = .ok (.iconst 0, 1) := by decide +kernel
theorem dX4_votes_88 : decode cX4_votes 88 = .ok (.iaload, 1) := by decide +kernel
theorem dX4_votes_89 : decode cX4_votes 89 = .ok (.iconst 1, 1) := by decide +kernel
theorem dX4_votes_90 : decode cX4_votes 90 = .ok (.isub, 1) := by decide +kernel
theorem dX4_votes_91 : decode cX4_votes 91 = .ok (.istore_n 2, 1) := by decide +kernel
theorem dX4_votes_92 : decode cX4_votes 92 = .ok (.iload_n 2, 1) := by decide +kernel
theorem dX4_votes_93 : decode cX4_votes 93 = .ok (.ifCond .lt 37, 3) := by decide +kernel
theorem dX4_votes_96 : decode cX4_votes 96 = .ok (.aload_n 0, 1) := by decide +kernel
theorem dX4_votes_97 : decode cX4_votes 97 = .ok (.iload_n 2, 1) := by decide +kernel
theorem dX4_votes_98 : decode cX4_votes 98 = .ok (.iconst 3, 1) := by decide +kernel
theorem dX4_votes_99 : decode cX4_votes 99 = .ok (.invokevirtual 53, 3) := by decide +kernel
theorem dX4_votes_102 : decode cX4_votes 102 = .ok (.ifCond .ne 22, 3) := by decide +kernel
theorem dX4_votes_105 : decode cX4_votes 105 = .ok (.aload_n 0, 1) := by decide +kernel
theorem dX4_votes_106 : decode cX4_votes 106 = .ok (.aload_n 0, 1) := by decide +kernel
theorem dX4_votes_107 : decode cX4_votes 107 = .ok (.iload_n 2, 1) := by decide +kernel
theorem dX4_votes_108 : decode cX4_votes 108 = .ok (.iconst 1, 1) := by decide +kernel
theorem dX4_votes_109 : decode cX4_votes 109 = .ok (.invokevirtual 53, 3) := by decide +kernel
theorem dX4_votes_112 : decode cX4_votes 112 = .ok (.invokevirtual 61, 3) := by decide +kernel
theorem dX4_votes_115 : decode cX4_votes 115 = .ok (.iload_n 1, 1) := by decide +kernel
theorem dX4_votes_116 : decode cX4_votes 116 = .ok (.if_icmp .ne 8, 3) := by decide +kernel
theorem dX4_votes_119 : decode cX4_votes 119 = .ok (.aload_n 0, 1) := by decide +kernel
theorem dX4_votes_120 : decode cX4_votes 120 = .ok (.iload_n 2, 1) := by decide +kernel
theorem dX4_votes_121 : decode cX4_votes 121 = .ok (.invokevirtual 110, 3) := by decide +kernel
theorem dX4_votes_124 : decode cX4_votes 124 = .ok (.iinc 2 (-1), 3) := by decide +kernel
theorem dX4_votes_127 : decode cX4_votes 127 = .ok (.goto (-35), 3) := by decide +kernel
theorem dX4_votes_130 : decode cX4_votes 130 = .ok (.iload_n 1, 1) := by decide +kernel
theorem dX4_votes_131 : decode cX4_votes 131 = .ok (.ifCond .ne 7, 3) := by decide +kernel
theorem dX4_votes_134 : decode cX4_votes 134 = .ok (.iconst 1, 1) := by decide +kernel
theorem dX4_votes_135 : decode cX4_votes 135 = .ok (.goto 4, 3) := by decide +kernel
theorem dX4_votes_138 : decode cX4_votes 138 = .ok (.iload_n 1, 1) := by decide +kernel
theorem dX4_votes_139 : decode cX4_votes 139 = .ok (.istore_n 2, 1) := by decide +kernel
theorem dX4_votes_140 : decode cX4_votes 140 = .ok (.aload_n 0, 1) := by decide +kernel
theorem dX4_votes_141 : decode cX4_votes 141 = .ok (.getfield 9, 3) := by decide +kernel
theorem dX4_votes_144 : decode cX4_votes 144 = .ok (.iconst 2, 1) := by decide +kernel
theorem dX4_votes_145 : decode cX4_votes 145 = .ok (.dup2, 1) := by decide +kernel
theorem dX4_votes_146 : decode cX4_votes 146 = .ok (.iaload, 1) := by decide +kernel
theorem dX4_votes_147 : decode cX4_votes 147 = .ok (.iconst 1, 1) := by decide +kernel
theorem dX4_votes_148 : decode cX4_votes 148 = .ok (.isub, 1) := by decide +kernel
theorem dX4_votes_149 : decode cX4_votes 149 = .ok (.iastore, 1) := by decide +kernel
theorem dX4_votes_150 : decode cX4_votes 150 = .ok (.iload_n 2, 1) := by decide +kernel
theorem dX4_votes_151 : decode cX4_votes 151 = .ok (.istore_n 3, 1) := by decide +kernel
theorem dX4_votes_152 : decode cX4_votes 152 = .ok (.iload_n 3, 1) := by decide +kernel
theorem dX4_votes_153 : decode cX4_votes 153 = .ok (.aload_n 0, 1) := by decide +kernel
theorem dX4_votes_154 : decode cX4_votes 154 = .ok (.getfield 9, 3) := by decide +kernel
theorem dX4_votes_157 : decode cX4_votes 157 = .ok (.iconst 2, 1) := by decide +kernel
theorem dX4_votes_158 : decode cX4_votes 158 = .ok (.iaload, 1) := by decide +kernel
theorem dX4_votes_159 : decode cX4_votes 159 = .ok (.if_icmp .ge 29, 3) := by decide +kernel
theorem dX4_votes_162 : decode cX4_votes 162 = .ok (.aload_n 0, 1) := by decide +kernel
theorem dX4_votes_163 : decode cX4_votes 163 = .ok (.getfield 9, 3) := by decide +kernel
theorem dX4_votes_166 : decode cX4_votes 166 = .ok (.bipush 7, 2) := by decide +kernel
theorem dX4_votes_168 : decode cX4_votes 168 = .ok (.iload_n 3, 1) := by decide +kernel
theorem dX4_votes_169 : decode cX4_votes 169 = .ok (.iadd, 1) := by decide +kernel
theorem dX4_votes_170 : decode cX4_votes 170 = .ok (.aload_n 0, 1) := by decide +kernel
theorem dX4_votes_171 : decode cX4_votes 171 = .ok (.getfield 9, 3) := by decide +kernel
theorem dX4_votes_174 : decode cX4_votes 174 = .ok (.bipush 7, 2) := by decide +kernel
theorem dX4_votes_176 : decode cX4_votes 176 = .ok (.iload_n 3, 1) := by decide +kernel
theorem dX4_votes_177 : decode cX4_votes 177 = .ok (.iadd, 1) := by decide +kernel
theorem dX4_votes_178 : decode cX4_votes 178 = .ok (.iconst 1, 1) := by decide +kernel
theorem dX4_votes_179 : decode cX4_votes 179 = .ok (.iadd, 1) := by decide +kernel
theorem dX4_votes_180 : decode cX4_votes 180 = .ok (.iaload, 1) := by decide +kernel
theorem dX4_votes_181 : decode cX4_votes 181 = .ok (.iastore, 1) := by decide +kernel
theorem dX4_votes_182 : decode cX4_votes 182 = .ok (.iinc 3 1, 3) := by decide +kernel
theorem dX4_votes_185 : decode cX4_votes 185 = .ok (.goto (-33), 3) := by decide +kernel
theorem dX4_votes_188 : decode cX4_votes 188 = .ok (.aload_n 0, 1) := by decide +kernel
theorem dX4_votes_189 : decode cX4_votes 189 = .ok (.getfield 9, 3) := by decide +kernel
theorem dX4_votes_192 : decode cX4_votes 192 = .ok (.bipush 7, 2) := by decide +kernel
theorem dX4_votes_194 : decode cX4_votes 194 = .ok (.aload_n 0, 1) := by decide +kernel
theorem dX4_votes_195 : decode cX4_votes 195 = .ok (.getfield 9, 3) := by decide +kernel
theorem dX4_votes_198 : decode cX4_votes 198 = .ok (.iconst 2, 1) := by decide +kernel
theorem dX4_votes_199 : decode cX4_votes 199 = .ok (.iaload, 1) := by decide +kernel
theorem dX4_votes_200 : decode cX4_votes 200 = .ok (.iadd, 1) := by decide +kernel
theorem dX4_votes_201 : decode cX4_votes 201 = .ok (.iconst 0, 1) := by decide +kernel
theorem dX4_votes_202 : decode cX4_votes 202 = .ok (.iastore, 1) := by decide +kernel
theorem dX4_votes_203 : decode cX4_votes 203 = .ok (.iconst 0, 1) := by decide +kernel
theorem dX4_votes_204 : decode cX4_votes 204 = .ok (.ireturn, 1) := by decide +kernel
theorem dX4_voteToDissolve_0 : decode cX4_voteToDissolve 0 = .ok (.aload_n 0, 1) := by decide +kernel
theorem dX4_voteToDissolve_1 : decode cX4_voteToDissolve 1 = .ok (.invokevirtual 96, 3) := by decide +kernel
theorem dX4_voteToDissolve_4 : decode cX4_voteToDissolve 4 = .ok (.aload_n 0, 1) := by decide +kernel
theorem dX4_voteToDissolve_5 : decode cX4_voteToDissolve 5 = .ok (.aload_n 0, 1) := by decide +kernel
theorem dX4_voteToDissolve_6 : decode cX4_voteToDissolve 6 = .ok (.iload_n 1, 1) := by decide +kernel
theorem dX4_voteToDissolve_7 : decode cX4_voteToDissolve 7 = .ok (.invokevirtual 135, 3) := by decide +kernel
theorem dX4_voteToDissolve_10 : decode cX4_voteToDissolve 10 = .ok (.iconst 1, 1) := by decide +kernel
theorem dX4_voteToDissolve_11 : decode cX4_voteToDissolve 11 = .ok (.iconst 0, 1) := by decide +kernel
theorem dX4_voteToDissolve_12 : decode cX4_voteToDissolve 12 = .ok (.iconst 2, 1) := by decide +kernel
theorem dX4_voteToDissolve_13 : decode cX4_voteToDissolve 13 = .ok (.invokevirtual 103, 3) := by decide +kernel
theorem dX4_voteToDissolve_16 : decode cX4_voteToDissolve 16 = .ok (.iconst 1, 1) := by decide +kernel
theorem dX4_voteToDissolve_17 : decode cX4_voteToDissolve 17 = .ok (.if_icmp .ne 7, 3) := by decide +kernel
theorem dX4_voteToDissolve_20 : decode cX4_voteToDissolve 20 = .ok (.iconst 1, 1) := by decide +kernel
theorem dX4_voteToDissolve_21 : decode cX4_voteToDissolve 21 = .ok (.goto 4, 3) := by decide +kernel
theorem dX4_voteToDissolve_24 : decode cX4_voteToDissolve 24 = .ok (.iconst 0, 1) := by decide +kernel
theorem dX4_voteToDissolve_25 : decode cX4_voteToDissolve 25 = .ok (.ireturn, 1) := by decide +kernel
theorem dX4_isPassed_0 : decode cX4_isPassed 0 = .ok (.aload_n 0, 1) := by decide +kernel
theorem dX4_isPassed_1 : decode cX4_isPassed 1 = .ok (.getfield 9, 3) := by decide +kernel
theorem dX4_isPassed_4 : decode cX4_isPassed 4 = .ok (.iconst 3, 1) := by decide +kernel
theorem dX4_isPassed_5 : decode cX4_isPassed 5 = .ok (.iaload, 1) := by decide +kernel
theorem dX4_isPassed_6 : decode cX4_isPassed 6 = .ok (.istore 4, 2) := by decide +kernel
theorem dX4_isPassed_8 : decode cX4_isPassed 8 = .ok (.iload_n 3, 1) := by decide +kernel
theorem dX4_isPassed_9 : decode cX4_isPassed 9 = .ok (.ifCond .eq 18, 3) := by decide +kernel
theorem dX4_isPassed_12 : decode cX4_isPassed 12 = .ok (.iload_n 1, 1) := by decide +kernel
theorem dX4_isPassed_13 : decode cX4_isPassed 13 = .ok (.iload 4, 2) := by decide +kernel
theorem dX4_isPassed_15 : decode cX4_isPassed 15 = .ok (.iconst 1, 1) := by decide +kernel
theorem dX4_isPassed_16 : decode cX4_isPassed 16 = .ok (.iadd, 1) := by decide +kernel
theorem dX4_isPassed_17 : decode cX4_isPassed 17 = .ok (.iload 4, 2) := by decide +kernel
theorem dX4_isPassed_19 : decode cX4_isPassed 19 = .ok (.iload_n 2, 1) := by decide +kernel
theorem dX4_isPassed_20 : decode cX4_isPassed 20 = .ok (.iadd, 1) := by decide +kernel
theorem dX4_isPassed_21 : decode cX4_isPassed 21 = .ok (.invokestatic 57, 3) := by decide +kernel
theorem dX4_isPassed_24 : decode cX4_isPassed 24 = .ok (.goto 15, 3) := by decide +kernel
theorem dX4_isPassed_27 : decode cX4_isPassed 27 = .ok (.iload_n 1, 1) := by decide +kernel
theorem dX4_isPassed_28 : decode cX4_isPassed 28 = .ok (.iload 4, 2) := by decide +kernel
theorem dX4_isPassed_30 : decode cX4_isPassed 30 = .ok (.iload_n 2, 1) := by decide +kernel
theorem dX4_isPassed_31 : decode cX4_isPassed 31 = .ok (.isub, 1) := by decide +kernel
theorem dX4_isPassed_32 : decode cX4_isPassed 32 = .ok (.iload 4, 2) := by decide +kernel
theorem dX4_isPassed_34 : decode cX4_isPassed 34 = .ok (.iconst 1, 1) := by decide +kernel
theorem dX4_isPassed_35 : decode cX4_isPassed 35 = .ok (.isub, 1) := by decide +kernel
theorem dX4_isPassed_36 : decode cX4_isPassed 36 = .ok (.invokestatic 57, 3) := by decide +kernel
theorem dX4_isPassed_39 : decode cX4_isPassed 39 = .ok (.ireturn, 1) := by decide +kernel
theorem dX4_turns_0 : decode cX4_turns 0 = .ok (.iload_n 1, 1) := by decide +kernel
theorem dX4_turns_1 : decode cX4_turns 1 = .ok (.iconst 1, 1) := by decide +kernel
theorem dX4_turns_2 : decode cX4_turns 2 = .ok (.bipush 20, 2) := by decide +kernel
theorem dX4_turns_4 : decode cX4_turns 4 = .ok (.invokestatic 57, 3) := by decide +kernel
theorem dX4_turns_7 : decode cX4_turns 7 = .ok (.ifCond .ne 5, 3) := by decide +kernel
theorem dX4_turns_10 : decode cX4_turns 10 = .ok (.iconst 2, 1) := by decide +kernel
theorem dX4_turns_11 : decode cX4_turns 11 = .ok (.ireturn, 1) := by decide +kernel
theorem dX4_turns_12 : decode cX4_turns 12 = .ok (.iload_n 2, 1) := by decide +kernel
theorem dX4_turns_13 : decode cX4_turns 13 = .ok (.ifCond .eq 14, 3) := by decide +kernel
theorem dX4_turns_16 : decode cX4_turns 16 = .ok (.aload_n 0, 1) := by decide +kernel
theorem dX4_turns_17 : decode cX4_turns 17 = .ok (.getfield 9, 3) := by decide +kernel
theorem dX4_turns_20 : decode cX4_turns 20 = .ok (.iconst 3, 1) := by decide +kernel
theorem dX4_turns_21 : decode cX4_turns 21 = .ok (.iaload, 1) := by decide +kernel
theorem dX4_turns_22 : decode cX4_turns 22 = .ok (.iload_n 1, 1) := by decide +kernel
theorem dX4_turns_23 : decode cX4_turns 23 = .ok (.iadd, 1) := by decide +kernel
theorem dX4_turns_24 : decode cX4_turns 24 = .ok (.goto 11, 3) := by decide +kernel
theorem dX4_turns_27 : decode cX4_turns 27 = .ok (.aload_n 0, 1) := by decide +kernel
theorem dX4_turns_28 : decode cX4_turns 28 = .ok (.getfield 9, 3) := by decide +kernel
theorem dX4_turns_31 : decode cX4_turns 31 = .ok (.iconst 3, 1) := by decide +kernel
theorem dX4_turns_32 : decode cX4_turns 32 = .ok (.iaload, 1) := by decide +kernel
theorem dX4_turns_33 : decode cX4_turns 33 = .ok (.iload_n 1, 1) := by decide +kernel
theorem dX4_turns_34 : decode cX4_turns 34 = .ok (.isub, 1) := by decide +kernel
theorem dX4_turns_35 : decode cX4_turns 35 = .ok (.istore_n 3, 1) := by decide +kernel
theorem dX4_turns_36 : decode cX4_turns 36 = .ok (.aload_n 0, 1) := by decide +kernel
theorem dX4_turns_37 : decode cX4_turns 37 = .ok (.iload_n 3, 1) := by decide +kernel
theorem dX4_turns_38 : decode cX4_turns 38 = .ok (.invokestatic 74, 3) := by decide +kernel
theorem dX4_turns_41 : decode cX4_turns 41 = .ok (.ifCond .ne 7, 3) := by decide +kernel
theorem dX4_turns_44 : decode cX4_turns 44 = .ok (.iconst 1, 1) := by decide +kernel
theorem dX4_turns_45 : decode cX4_turns 45 = .ok (.goto 4, 3) := by decide +kernel
theorem dX4_turns_48 : decode cX4_turns 48 = .ok (.iconst 0, 1) := by decide +kernel
theorem dX4_turns_49 : decode cX4_turns 49 = .ok (.bipush 9, 2) := by decide +kernel
theorem dX4_turns_51 : decode cX4_turns 51 = .ok (.aload_n 0, 1) := by decide +kernel
theorem dX4_turns_52 : decode cX4_turns 52 = .ok (.getfield 9, 3) := by decide +kernel
theorem dX4_turns_55 : decode cX4_turns 55 = .ok (.iconst 3, 1) := by decide +kernel
theorem dX4_turns_56 : decode cX4_turns 56 = .ok (.iaload, 1) := by decide +kernel
theorem dX4_turns_57 : decode cX4_turns 57 = .ok (.invokevirtual 85, 3) := by decide +kernel
theorem dX4_turns_60 : decode cX4_turns 60 = .ok (.ifCond .eq 5, 3) := by decide +kernel
theorem dX4_turns_63 : decode cX4_turns 63 = .ok (.iconst 3, 1) := by decide +kernel
theorem dX4_turns_64 : decode cX4_turns 64 = .ok (.ireturn, 1) := by decide +kernel
theorem dX4_turns_65 : decode cX4_turns 65 = .ok (.aload_n 0, 1) := by decide +kernel
theorem dX4_turns_66 : decode cX4_turns 66 = .ok (.iconst 0, 1) := by decide +kernel
theorem dX4_turns_67 : decode cX4_turns 67 = .ok (.putfield 37, 3) := by decide +kernel
theorem dX4_turns_70 : decode cX4_turns 70 = .ok (.aload_n 0, 1) := by decide +kernel
theorem dX4_turns_71 : decode cX4_turns 71 = .ok (.getfield 9, 3) := by decide +kernel
theorem dX4_turns_74 : decode cX4_turns 74 = .ok (.iconst 0, 1) := by decide +kernel
theorem dX4_turns_75 : decode cX4_turns 75 = .ok (.iaload, 1) := by decide +kernel
theorem dX4_turns_76 : decode cX4_turns 76 = .ok (.iconst 1, 1) := by decide +kernel
theorem dX4_turns_77 : decode cX4_turns 77 = .ok (.isub, 1) := by decide +kernel
theorem dX4_turns_78 : decode cX4_turns 78 = .ok (.istore 4, 2) := by decide +kernel
theorem dX4_turns_80 : decode cX4_turns 80 = .ok (.iload 4, 2) := by decide +kernel
theorem dX4_turns_82 : decode cX4_turns 82 = .ok (.ifCond .lt 84, 3) := by decide +kernel
theorem dX4_turns_85 : decode cX4_turns 85 = .ok (.aload_n 0, 1) := by decide +kernel
theorem dX4_turns_86 : decode cX4_turns 86 = .ok (.iload 4, 2) := by decide +kernel
theorem dX4_turns_88 : decode cX4_turns 88 = .ok (.iconst 3, 1) := by decide +kernel
theorem dX4_turns_89 : decode cX4_turns 89 = .ok (.invokevirtual 53, 3) := by decide +kernel
theorem dX4_turns_92 : decode cX4_turns 92 = .ok (.ifCond .gt 68, 3) := by decide +kernel
theorem dX4_turns_95 : decode cX4_turns 95 = .ok (.aload_n 0, 1) := by decide +kernel
theorem dX4_turns_96 : decode cX4_turns 96 = .ok (.aload_n 0, 1) := by decide +kernel
theorem dX4_turns_97 : decode cX4_turns 97 = .ok (.iload 4, 2) := by decide +kernel
theorem dX4_turns_99 : decode cX4_turns 99 = .ok (.iconst 1, 1) := by decide +kernel
theorem dX4_turns_100 : decode cX4_turns 100 = .ok (.invokevirtual 53, 3) := by decide +kernel
theorem dX4_turns_103 : decode cX4_turns 103 = .ok (.iload_n 1, 1) := by decide +kernel
theorem dX4_turns_104 : decode cX4_turns 104 = .ok (.iload_n 2, 1) := by decide +kernel
theorem dX4_turns_105 : decode cX4_turns 105 = .ok (.invokevirtual 138, 3) := by decide +kernel
theorem dX4_turns_108 : decode cX4_turns 108 = .ok (.ifCond .ne 6, 3) := by decide +kernel
theorem dX4_turns_111 : decode cX4_turns 111 = .ok (.goto 49, 3) := by decide +kernel
theorem dX4_turns_114 : decode cX4_turns 114 = .ok (.aload_n 0, 1) := by decide +kernel
theorem dX4_turns_115 : decode cX4_turns 115 = .ok (.iload 4, 2) := by decide +kernel
theorem dX4_turns_117 : decode cX4_turns 117 = .ok (.iconst 4, 1) := by decide +kernel
theorem dX4_turns_118 : decode cX4_turns 118 = .ok (.aload_n 0, 1) := by decide +kernel
theorem dX4_turns_119 : decode cX4_turns 119 = .ok (.iload 4, 2) := by decide +kernel
theorem dX4_turns_121 : decode cX4_turns 121 = .ok (.iconst 4, 1) := by decide +kernel
theorem dX4_turns_122 : decode cX4_turns 122 = .ok (.invokevirtual 53, 3) := by decide +kernel
theorem dX4_turns_125 : decode cX4_turns 125 = .ok (.iconst 1, 1) := by decide +kernel
theorem dX4_turns_126 : decode cX4_turns 126 = .ok (.iadd, 1) := by decide +kernel
theorem dX4_turns_127 : decode cX4_turns 127 = .ok (.invokevirtual 92, 3) := by decide +kernel
theorem dX4_turns_130 : decode cX4_turns 130 = .ok (.aload_n 0, 1) := by decide +kernel
theorem dX4_turns_131 : decode cX4_turns 131 = .ok (.iload 4, 2) := by decide +kernel
theorem dX4_turns_133 : decode cX4_turns 133 = .ok (.iconst 4, 1) := by decide +kernel
theorem dX4_turns_134 : decode cX4_turns 134 = .ok (.invokevirtual 53, 3) := by decide +kernel
theorem dX4_turns_137 : decode cX4_turns 137 = .ok (.iconst 3, 1) := by decide +kernel
theorem dX4_turns_138 : decode cX4_turns 138 = .ok (.if_icmp .ge 6, 3) := by decide +kernel
theorem dX4_turns_141 : decode cX4_turns 141 = .ok (.goto 19, 3) := by decide +kernel
theorem dX4_turns_144 : decode cX4_turns 144 = .ok (.aload_n 0, 1) := by decide +kernel
theorem dX4_turns_145 : decode cX4_turns 145 = .ok (.iload 4, 2) := by decide +kernel
theorem dX4_turns_147 : decode cX4_turns 147 = .ok (.invokevirtual 110, 3) := by decide +kernel
theorem dX4_turns_150 : decode cX4_turns 150 = .ok (.aload_n 0, 1) := by decide +kernel
theorem dX4_turns_151 : decode cX4_turns 151 = .ok (.dup, 1) := by decide +kernel
theorem dX4_turns_152 : decode cX4_turns 152 = .ok (.getfield 37, 3) := by decide +kernel
theorem dX4_turns_155 : decode cX4_turns 155 = .ok (.iconst 1, 1) := by decide +kernel
theorem dX4_turns_156 : decode cX4_turns 156 = .ok (.iadd, 1) := by decide +kernel
theorem dX4_turns_157 : decode cX4_turns 157 = .ok (.putfield 37, 3) := by decide +kernel
theorem dX4_turns_160 : decode cX4_turns 160 = .ok (.iinc 4 (-1), 3) := by decide +kernel
theorem dX4_turns_163 : decode cX4_turns 163 = .ok (.goto (-83), 3) := by decide +kernel
theorem dX4_turns_166 : decode cX4_turns 166 = .ok (.aload_n 0, 1) := by decide +kernel
theorem dX4_turns_167 : decode cX4_turns 167 = .ok (.getfield 9, 3) := by decide +kernel
theorem dX4_turns_170 : decode cX4_turns 170 = .ok (.bipush 6, 2) := by decide +kernel
theorem dX4_turns_172 : decode cX4_turns 172 = .ok (.dup2, 1) := by decide +kernel
theorem dX4_turns_173 : decode cX4_turns 173 = .ok (.iaload, 1) := by decide +kernel
theorem dX4_turns_174 : decode cX4_turns 174 = .ok (.aload_n 0, 1) := by decide +kernel
theorem dX4_turns_175 : decode cX4_turns 175 = .ok (.getfield 37, 3) := by decide +kernel
theorem dX4_turns_178 : decode cX4_turns 178 = .ok (.iadd, 1) := by decide +kernel
theorem dX4_turns_179 : decode cX4_turns 179 = .ok (.iastore, 1) := by decide +kernel
theorem dX4_turns_180 : decode cX4_turns 180 = .ok (.aload_n 0, 1) := by decide +kernel
theorem dX4_turns_181 : decode cX4_turns 181 = .ok (.getfield 9, 3) := by decide +kernel
theorem dX4_turns_184 : decode cX4_turns 184 = .ok (.iconst 3, 1) := by decide +kernel
theorem dX4_turns_185 : decode cX4_turns 185 = .ok (.iload_n 3, 1) := by decide +kernel
theorem dX4_turns_186 : decode cX4_turns 186 = .ok (.iastore, 1) := by decide +kernel
theorem dX4_turns_187 : decode cX4_turns 187 = .ok (.iconst 0, 1) := by decide +kernel
theorem dX4_turns_188 : decode cX4_turns 188 = .ok (.ireturn, 1) := by decide +kernel
theorem dX4_turnPages_0 : decode cX4_turnPages 0 = .ok (.aload_n 0, 1) := by decide +kernel
theorem dX4_turnPages_1 : decode cX4_turnPages 1 = .ok (.invokevirtual 96, 3) := by decide +kernel
theorem dX4_turnPages_4 : decode cX4_turnPages 4 = .ok (.aload_n 0, 1) := by decide +kernel
theorem dX4_turnPages_5 : decode cX4_turnPages 5 = .ok (.aload_n 0, 1) := by decide +kernel
theorem dX4_turnPages_6 : decode cX4_turnPages 6 = .ok (.iload_n 1, 1) := by decide +kernel
theorem dX4_turnPages_7 : decode cX4_turnPages 7 = .ok (.iload_n 2, 1) := by decide +kernel
theorem dX4_turnPages_8 : decode cX4_turnPages 8 = .ok (.invokevirtual 142, 3) := by decide +kernel
theorem dX4_turnPages_11 : decode cX4_turnPages 11 = .ok (.iconst 0, 1) := by decide +kernel
theorem dX4_turnPages_12 : decode cX4_turnPages 12 = .ok (.iconst 1, 1) := by decide +kernel
theorem dX4_turnPages_13 : decode cX4_turnPages 13 = .ok (.iconst 2, 1) := by decide +kernel
theorem dX4_turnPages_14 : decode cX4_turnPages 14 = .ok (.invokevirtual 103, 3) := by decide +kernel
theorem dX4_turnPages_17 : decode cX4_turnPages 17 = .ok (.ireturn, 1) := by decide +kernel
theorem dX4_ofMark_0 : decode cX4_ofMark 0 = .ok (.aload_n 0, 1) := by decide +kernel
theorem dX4_ofMark_1 : decode cX4_ofMark 1 = .ok (.iload_n 1, 1) := by decide +kernel
theorem dX4_ofMark_2 : decode cX4_ofMark 2 = .ok (.invokevirtual 107, 3) := by decide +kernel
theorem dX4_ofMark_5 : decode cX4_ofMark 5 = .ok (.istore_n 3, 1) := by decide +kernel
theorem dX4_ofMark_6 : decode cX4_ofMark 6 = .ok (.aload_n 0, 1) := by decide +kernel
theorem dX4_ofMark_7 : decode cX4_ofMark 7 = .ok (.iload_n 3, 1) := by decide +kernel
theorem dX4_ofMark_8 : decode cX4_ofMark 8 = .ok (.ifCond .lt 7, 3) := by decide +kernel
theorem dX4_ofMark_11 : decode cX4_ofMark 11 = .ok (.iconst 1, 1) := by decide +kernel
theorem dX4_ofMark_12 : decode cX4_ofMark 12 = .ok (.goto 4, 3) := by decide +kernel
theorem dX4_ofMark_15 : decode cX4_ofMark 15 = .ok (.iconst 0, 1) := by decide +kernel
theorem dX4_ofMark_16 : decode cX4_ofMark 16 = .ok (.invokevirtual 49, 3) := by decide +kernel
theorem dX4_ofMark_19 : decode cX4_ofMark 19 = .ok (.ifCond .eq 12, 3) := by decide +kernel
theorem dX4_ofMark_22 : decode cX4_ofMark 22 = .ok (.aload_n 0, 1) := by decide +kernel
theorem dX4_ofMark_23 : decode cX4_ofMark 23 = .ok (.iload_n 3, 1) := by decide +kernel
theorem dX4_ofMark_24 : decode cX4_ofMark 24 = .ok (.iload_n 2, 1) := by decide +kernel
theorem dX4_ofMark_25 : decode cX4_ofMark 25 = .ok (.invokevirtual 53, 3) := by decide +kernel
theorem dX4_ofMark_28 : decode cX4_ofMark 28 = .ok (.goto 4, 3) := by decide +kernel
theorem dX4_ofMark_31 : decode cX4_ofMark 31 = .ok (.iconst 0, 1) := by decide +kernel
theorem dX4_ofMark_32 : decode cX4_ofMark 32 = .ok (.ireturn, 1) := by decide +kernel
theorem dX4_isRibbon_0 : decode cX4_isRibbon 0 = .ok (.aload_n 0, 1) := by decide +kernel
theorem dX4_isRibbon_1 : decode cX4_isRibbon 1 = .ok (.iload_n 1, 1) := by decide +kernel
theorem dX4_isRibbon_2 : decode cX4_isRibbon 2 = .ok (.iconst 3, 1) := by decide +kernel
theorem dX4_isRibbon_3 : decode cX4_isRibbon 3 = .ok (.invokevirtual 146, 3) := by decide +kernel
theorem dX4_isRibbon_6 : decode cX4_isRibbon 6 = .ok (.ifCond .le 7, 3) := by decide +kernel
theorem dX4_isRibbon_9 : decode cX4_isRibbon 9 = .ok (.iconst 1, 1) := by decide +kernel
theorem dX4_isRibbon_10 : decode cX4_isRibbon 10 = .ok (.goto 4, 3) := by decide +kernel
theorem dX4_isRibbon_13 : decode cX4_isRibbon 13 = .ok (.iconst 0, 1) := by decide +kernel
theorem dX4_isRibbon_14 : decode cX4_isRibbon 14 = .ok (.ireturn, 1) := by decide +kernel
theorem dX4_pageOf_0 : decode cX4_pageOf 0 = .ok (.aload_n 0, 1) := by decide +kernel
theorem dX4_pageOf_1 : decode cX4_pageOf 1 = .ok (.iload_n 1, 1) := by decide +kernel
theorem dX4_pageOf_2 : decode cX4_pageOf 2 = .ok (.iconst 1, 1) := by decide +kernel
theorem dX4_pageOf_3 : decode cX4_pageOf 3 = .ok (.invokevirtual 146, 3) := by decide +kernel
theorem dX4_pageOf_6 : decode cX4_pageOf 6 = .ok (.ireturn, 1) := by decide +kernel
theorem dX4_weightOf_0 : decode cX4_weightOf 0 = .ok (.aload_n 0, 1) := by decide +kernel
theorem dX4_weightOf_1 : decode cX4_weightOf 1 = .ok (.iload_n 1, 1) := by decide +kernel
theorem dX4_weightOf_2 : decode cX4_weightOf 2 = .ok (.iconst 2, 1) := by decide +kernel
theorem dX4_weightOf_3 : decode cX4_weightOf 3 = .ok (.invokevirtual 146, 3) := by decide +kernel
theorem dX4_weightOf_6 : decode cX4_weightOf 6 = .ok (.ireturn, 1) := by decide +kernel
theorem dX4_wearOf_0 : decode cX4_wearOf 0 = .ok (.aload_n 0, 1) := by decide +kernel
theorem dX4_wearOf_1 : decode cX4_wearOf 1 = .ok (.iload_n 1, 1) := by decide +kernel
theorem dX4_wearOf_2 : decode cX4_wearOf 2 = .ok (.iconst 4, 1) := by decide +kernel
theorem dX4_wearOf_3 : decode cX4_wearOf 3 = .ok (.invokevirtual 146, 3) := by decide +kernel
theorem dX4_wearOf_6 : decode cX4_wearOf 6 = .ok (.ireturn, 1) := by decide +kernel
theorem dX4_seatOf_0 : decode cX4_seatOf 0 = .ok (.aload_n 0, 1) := by decide +kernel
theorem dX4_seatOf_1 : decode cX4_seatOf 1 = .ok (.iload_n 1, 1) := by decide +kernel
theorem dX4_seatOf_2 : decode cX4_seatOf 2 = .ok (.invokevirtual 107, 3) := by decide +kernel
theorem dX4_seatOf_5 : decode cX4_seatOf 5 = .ok (.istore_n 2, 1) := by decide +kernel
theorem dX4_seatOf_6 : decode cX4_seatOf 6 = .ok (.aload_n 0, 1) := by decide +kernel
theorem dX4_seatOf_7 : decode cX4_seatOf 7 = .ok (.iload_n 2, 1) := by decide +kernel
theorem dX4_seatOf_8 : decode cX4_seatOf 8 = .ok (.ifCond .ge 7, 3) := by decide +kernel
theorem dX4_seatOf_11 : decode cX4_seatOf 11 = .ok (.iconst 1, 1) := by decide +kernel
theorem dX4_seatOf_12 : decode cX4_seatOf 12 = .ok (.goto 17, 3) := by decide +kernel
theorem dX4_seatOf_15 : decode cX4_seatOf 15 = .ok (.aload_n 0, 1) := by decide +kernel
theorem dX4_seatOf_16 : decode cX4_seatOf 16 = .ok (.iload_n 2, 1) := by decide +kernel
theorem dX4_seatOf_17 : decode cX4_seatOf 17 = .ok (.iconst 3, 1) := by decide +kernel
theorem dX4_seatOf_18 : decode cX4_seatOf 18 = .ok (.invokevirtual 53, 3) := by decide +kernel
theorem dX4_seatOf_21 : decode cX4_seatOf 21 = .ok (.ifCond .ne 7, 3) := by decide +kernel
theorem dX4_seatOf_24 : decode cX4_seatOf 24 = .ok (.iconst 2, 1) := by decide +kernel
theorem dX4_seatOf_25 : decode cX4_seatOf 25 = .ok (.goto 4, 3) := by decide +kernel
theorem dX4_seatOf_28 : decode cX4_seatOf 28 = .ok (.iconst 0, 1) := by decide +kernel
theorem dX4_seatOf_29 : decode cX4_seatOf 29 = .ok (.putfield 27, 3) := by decide +kernel
theorem dX4_seatOf_32 : decode cX4_seatOf 32 = .ok (.aload_n 0, 1) := by decide +kernel
theorem dX4_seatOf_33 : decode cX4_seatOf 33 = .ok (.getfield 27, 3) := by decide +kernel
theorem dX4_seatOf_36 : decode cX4_seatOf 36 = .ok (.ifCond .ne 14, 3) := by decide +kernel
theorem dX4_seatOf_39 : decode cX4_seatOf 39 = .ok (.aload_n 0, 1) := by decide +kernel
theorem dX4_seatOf_40 : decode cX4_seatOf 40 = .ok (.iload_n 2, 1) := by decide +kernel
theorem dX4_seatOf_41 : decode cX4_seatOf 41 = .ok (.iconst 3, 1) := by decide +kernel
theorem dX4_seatOf_42 : decode cX4_seatOf 42 = .ok (.invokevirtual 53, 3) := by decide +kernel
theorem dX4_seatOf_45 : decode cX4_seatOf 45 = .ok (.iconst 1, 1) := by decide +kernel
theorem dX4_seatOf_46 : decode cX4_seatOf 46 = .ok (.isub, 1) := by decide +kernel
theorem dX4_seatOf_47 : decode cX4_seatOf 47 = .ok (.goto 4, 3) := by decide +kernel
theorem dX4_seatOf_50 : decode cX4_seatOf 50 = .ok (.iconst 0, 1) := by decide +kernel
theorem dX4_seatOf_51 : decode cX4_seatOf 51 = .ok (.ireturn, 1) := by decide +kernel
theorem dX4_idOr_0 : decode cX4_idOr 0 = .ok (.aload_n 0, 1) := by decide +kernel
theorem dX4_idOr_1 : decode cX4_idOr 1 = .ok (.iload_n 1, 1) := by decide +kernel
theorem dX4_idOr_2 : decode cX4_idOr 2 = .ok (.ifCond .ne 7, 3) := by decide +kernel
theorem dX4_idOr_5 : decode cX4_idOr 5 = .ok (.iconst 1, 1) := by decide +kernel
theorem dX4_idOr_6 : decode cX4_idOr 6 = .ok (.goto 12, 3) := by decide +kernel
theorem dX4_idOr_9 : decode cX4_idOr 9 = .ok (.iload_n 2, 1) := by decide +kernel
theorem dX4_idOr_10 : decode cX4_idOr 10 = .ok (.ifCond .ge 7, 3) := by decide +kernel
theorem dX4_idOr_13 : decode cX4_idOr 13 = .ok (.iconst 2, 1) := by decide +kernel
theorem dX4_idOr_14 : decode cX4_idOr 14 = .ok (.goto 4, 3) := by decide +kernel
theorem dX4_idOr_17 : decode cX4_idOr 17 = .ok (.iconst 0, 1) := by decide +kernel
theorem dX4_idOr_18 : decode cX4_idOr 18 = .ok (.putfield 27, 3) := by decide +kernel
theorem dX4_idOr_21 : decode cX4_idOr 21 = .ok (.aload_n 0, 1) := by decide +kernel
theorem dX4_idOr_22 : decode cX4_idOr 22 = .ok (.getfield 27, 3) := by decide +kernel
theorem dX4_idOr_25 : decode cX4_idOr 25 = .ok (.ifCond .ne 12, 3) := by decide +kernel
theorem dX4_idOr_28 : decode cX4_idOr 28 = .ok (.aload_n 0, 1) := by decide +kernel
theorem dX4_idOr_29 : decode cX4_idOr 29 = .ok (.iload_n 2, 1) := by decide +kernel
theorem dX4_idOr_30 : decode cX4_idOr 30 = .ok (.iconst 0, 1) := by decide +kernel
theorem dX4_idOr_31 : decode cX4_idOr 31 = .ok (.invokevirtual 53, 3) := by decide +kernel
theorem dX4_idOr_34 : decode cX4_idOr 34 = .ok (.goto 4, 3) := by decide +kernel
theorem dX4_idOr_37 : decode cX4_idOr 37 = .ok (.iconst 0, 1) := by decide +kernel
theorem dX4_idOr_38 : decode cX4_idOr 38 = .ok (.ireturn, 1) := by decide +kernel
theorem dX4_ribbonIn_0 : decode cX4_ribbonIn 0 = .ok (.aload_n 0, 1) := by decide +kernel
theorem dX4_ribbonIn_1 : decode cX4_ribbonIn 1 = .ok (.iload_n 1, 1) := by decide +kernel
theorem dX4_ribbonIn_2 : decode cX4_ribbonIn 2 = .ok (.iconst 0, 1) := by decide +kernel
theorem dX4_ribbonIn_3 : decode cX4_ribbonIn 3 = .ok (.iconst 4, 1) := by decide +kernel
theorem dX4_ribbonIn_4 : decode cX4_ribbonIn 4 = .ok (.invokestatic 57, 3) := by decide +kernel
theorem dX4_ribbonIn_7 : decode cX4_ribbonIn 7 = .ok (.aload_n 0, 1) := by decide +kernel
theorem dX4_ribbonIn_8 : decode cX4_ribbonIn 8 = .ok (.iload_n 1, 1) := by decide +kernel
theorem dX4_ribbonIn_9 : decode cX4_ribbonIn 9 = .ok (.invokevirtual 71, 3) := by decide +kernel
theorem dX4_ribbonIn_12 : decode cX4_ribbonIn 12 = .ok (.invokevirtual 149, 3) := by decide +kernel
theorem dX4_ribbonIn_15 : decode cX4_ribbonIn 15 = .ok (.ireturn, 1) := by decide +kernel
theorem dX4_isHeld_0 : decode cX4_isHeld 0 = .ok (.aload_n 0, 1) := by decide +kernel
theorem dX4_isHeld_1 : decode cX4_isHeld 1 = .ok (.iload_n 1, 1) := by decide +kernel
theorem dX4_isHeld_2 : decode cX4_isHeld 2 = .ok (.invokestatic 74, 3) := by decide +kernel
theorem dX4_isHeld_5 : decode cX4_isHeld 5 = .ok (.invokevirtual 49, 3) := by decide +kernel
theorem dX4_isHeld_8 : decode cX4_isHeld 8 = .ok (.ifCond .eq 15, 3) := by decide +kernel
theorem dX4_isHeld_11 : decode cX4_isHeld 11 = .ok (.aload_n 0, 1) := by decide +kernel
theorem dX4_isHeld_12 : decode cX4_isHeld 12 = .ok (.iload_n 1, 1) := by decide +kernel
theorem dX4_isHeld_13 : decode cX4_isHeld 13 = .ok (.invokevirtual 82, 3) := by decide +kernel
theorem dX4_isHeld_16 : decode cX4_isHeld 16 = .ok (.ifCond .lt 7, 3) := by decide +kernel
theorem dX4_isHeld_19 : decode cX4_isHeld 19 = .ok (.iconst 1, 1) := by decide +kernel
theorem dX4_isHeld_20 : decode cX4_isHeld 20 = .ok (.goto 4, 3) := by decide +kernel
theorem dX4_isHeld_23 : decode cX4_isHeld 23 = .ok (.iconst 0, 1) := by decide +kernel
theorem dX4_isHeld_24 : decode cX4_isHeld 24 = .ok (.ireturn, 1) := by decide +kernel
theorem dX4_markOn_0 : decode cX4_markOn 0 = .ok (.aload_n 0, 1) := by decide +kernel
theorem dX4_markOn_1 : decode cX4_markOn 1 = .ok (.iload_n 1, 1) := by decide +kernel
theorem dX4_markOn_2 : decode cX4_markOn 2 = .ok (.invokestatic 74, 3) := by decide +kernel
theorem dX4_markOn_5 : decode cX4_markOn 5 = .ok (.aload_n 0, 1) := by decide +kernel
theorem dX4_markOn_6 : decode cX4_markOn 6 = .ok (.iload_n 1, 1) := by decide +kernel
theorem dX4_markOn_7 : decode cX4_markOn 7 = .ok (.invokevirtual 82, 3) := by decide +kernel
theorem dX4_markOn_10 : decode cX4_markOn 10 = .ok (.invokevirtual 149, 3) := by decide +kernel
theorem dX4_markOn_13 : decode cX4_markOn 13 = .ok (.ireturn, 1) := by decide +kernel
theorem dX4_nearest_0 : decode cX4_nearest 0 = .ok (.iconst (-1), 1) := by decide +kernel
theorem dX4_nearest_1 : decode cX4_nearest 1 = .ok (.istore_n 3, 1) := by decide +kernel
theorem dX4_nearest_2 : decode cX4_nearest 2 = .ok (.sipush 1000, 3) := by decide +kernel
theorem dX4_nearest_5 : decode cX4_nearest 5 = .ok (.istore 4, 2) := by decide +kernel
theorem dX4_nearest_7 : decode cX4_nearest 7 = .ok (.iconst 0, 1) := by decide +kernel
theorem dX4_nearest_8 : decode cX4_nearest 8 = .ok (.istore 5, 2) := by decide +kernel
theorem dX4_nearest_10 : decode cX4_nearest 10 = .ok (.iload 5, 2) := by decide +kernel
theorem dX4_nearest_12 : decode cX4_nearest 12 = .ok (.bipush 60, 2) := by decide +kernel
theorem dX4_nearest_14 : decode cX4_nearest 14 = .ok (.if_icmp .ge 79, 3) := by decide +kernel
theorem dX4_nearest_17 : decode cX4_nearest 17 = .ok (.iload 5, 2) := by decide +kernel
theorem dX4_nearest_19 : decode cX4_nearest 19 = .ok (.iload_n 1, 1) := by decide +kernel
theorem dX4_nearest_20 : decode cX4_nearest 20 = .ok (.if_icmp .ge 10, 3) := by decide +kernel
theorem dX4_nearest_23 : decode cX4_nearest 23 = .ok (.iload_n 1, 1) := by decide +kernel
theorem dX4_nearest_24 : decode cX4_nearest 24 = .ok (.iload 5, 2) := by decide +kernel
theorem dX4_nearest_26 : decode cX4_nearest 26 = .ok (.isub, 1) := by decide +kernel
theorem dX4_nearest_27 : decode cX4_nearest 27 = .ok (.goto 7, 3) := by decide +kernel
theorem dX4_nearest_30 : decode cX4_nearest 30 = .ok (.iload 5, 2) := by decide +kernel
theorem dX4_nearest_32 : decode cX4_nearest 32 = .ok (.iload_n 1, 1) := by decide +kernel
theorem dX4_nearest_33 : decode cX4_nearest 33 = .ok (.isub, 1) := by decide +kernel
theorem dX4_nearest_34 : decode cX4_nearest 34 = .ok (.istore 6, 2) := by decide +kernel
theorem dX4_nearest_36 : decode cX4_nearest 36 = .ok (.aload_n 0, 1) := by decide +kernel
theorem dX4_nearest_37 : decode cX4_nearest 37 = .ok (.iload 5, 2) := by decide +kernel
theorem dX4_nearest_39 : decode cX4_nearest 39 = .ok (.invokevirtual 82, 3) := by decide +kernel
theorem dX4_nearest_42 : decode cX4_nearest 42 = .ok (.ifCond .lt 45, 3) := by decide +kernel
theorem dX4_nearest_45 : decode cX4_nearest 45 = .ok (.iload_n 2, 1) := by decide +kernel
theorem dX4_nearest_46 : decode cX4_nearest 46 = .ok (.ifCond .ne 9, 3) := by decide +kernel
theorem dX4_nearest_49 : decode cX4_nearest 49 = .ok (.iload 5, 2) := by decide +kernel
theorem dX4_nearest_51 : decode cX4_nearest 51 = .ok (.iload_n 1, 1) := by decide +kernel
theorem dX4_nearest_52 : decode cX4_nearest 52 = .ok (.if_icmp .lt 35, 3) := by decide +kernel
theorem dX4_nearest_55 : decode cX4_nearest 55 = .ok (.iload_n 2, 1) := by decide +kernel
theorem dX4_nearest_56 : decode cX4_nearest 56 = .ok (.iconst 1, 1) := by decide +kernel
theorem dX4_nearest_57 : decode cX4_nearest 57 = .ok (.if_icmp .ne 9, 3) := by decide +kernel
theorem dX4_nearest_60 : decode cX4_nearest 60 = .ok (.iload 5, 2) := by decide +kernel
theorem dX4_nearest_62 : decode cX4_nearest 62 = .ok (.iload_n 1, 1) := by decide +kernel
theorem dX4_nearest_63 : decode cX4_nearest 63 = .ok (.if_icmp .gt 24, 3) := by decide +kernel
theorem dX4_nearest_66 : decode cX4_nearest 66 = .ok (.iload 6, 2) := by decide +kernel
theorem dX4_nearest_68 : decode cX4_nearest 68 = .ok (.iload 4, 2) := by decide +kernel
theorem dX4_nearest_70 : decode cX4_nearest 70 = .ok (.if_icmp .lt 6, 3) := by decide +kernel
theorem dX4_nearest_73 : decode cX4_nearest 73 = .ok (.goto 14, 3) := by decide +kernel
theorem dX4_nearest_76 : decode cX4_nearest 76 = .ok (.aload_n 0, 1) := by decide +kernel
theorem dX4_nearest_77 : decode cX4_nearest 77 = .ok (.iload 5, 2) := by decide +kernel
theorem dX4_nearest_79 : decode cX4_nearest 79 = .ok (.invokevirtual 82, 3) := by decide +kernel
theorem dX4_nearest_82 : decode cX4_nearest 82 = .ok (.istore_n 3, 1) := by decide +kernel
theorem dX4_nearest_83 : decode cX4_nearest 83 = .ok (.iload 6, 2) := by decide +kernel
theorem dX4_nearest_85 : decode cX4_nearest 85 = .ok (.istore 4, 2) := by decide +kernel
theorem dX4_nearest_87 : decode cX4_nearest 87 = .ok (.iinc 5 1, 3) := by decide +kernel
theorem dX4_nearest_90 : decode cX4_nearest 90 = .ok (.goto (-80), 3) := by decide +kernel
theorem dX4_nearest_93 : decode cX4_nearest 93 = .ok (.iload_n 3, 1) := by decide +kernel
theorem dX4_nearest_94 : decode cX4_nearest 94 = .ok (.ireturn, 1) := by decide +kernel
theorem dX4_nextMark_0 : decode cX4_nextMark 0 = .ok (.aload_n 0, 1) := by decide +kernel
theorem dX4_nextMark_1 : decode cX4_nextMark 1 = .ok (.iload_n 1, 1) := by decide +kernel
theorem dX4_nextMark_2 : decode cX4_nextMark 2 = .ok (.invokestatic 74, 3) := by decide +kernel
theorem dX4_nextMark_5 : decode cX4_nextMark 5 = .ok (.aload_n 0, 1) := by decide +kernel
theorem dX4_nextMark_6 : decode cX4_nextMark 6 = .ok (.iload_n 1, 1) := by decide +kernel
theorem dX4_nextMark_7 : decode cX4_nextMark 7 = .ok (.iconst 0, 1) := by decide +kernel
theorem dX4_nextMark_8 : decode cX4_nextMark 8 = .ok (.invokevirtual 153, 3) := by decide +kernel
theorem dX4_nextMark_11 : decode cX4_nextMark 11 = .ok (.invokevirtual 149, 3) := by decide +kernel
theorem dX4_nextMark_14 : decode cX4_nextMark 14 = .ok (.ireturn, 1) := by decide +kernel
theorem dX4_previousMark_0 : decode cX4_previousMark 0 = .ok (.aload_n 0, 1) := by decide +kernel
theorem dX4_previousMark_1 : decode cX4_previousMark 1 = .ok (.iload_n 1, 1) := by decide +kernel
theorem dX4_previousMark_2 : decode cX4_previousMark 2 = .ok (.invokestatic 74, 3) := by decide +kernel
theorem dX4_previousMark_5 : decode cX4_previousMark 5 = .ok (.aload_n 0, 1) := by decide +kernel
theorem dX4_previousMark_6 : decode cX4_previousMark 6 = .ok (.iload_n 1, 1) := by decide +kernel
theorem dX4_previousMark_7 : decode cX4_previousMark 7 = .ok (.iconst 1, 1) := by decide +kernel
theorem dX4_previousMark_8 : decode cX4_previousMark 8 = .ok (.invokevirtual 153, 3) := by decide +kernel
theorem dX4_previousMark_11 : decode cX4_previousMark 11 = .ok (.invokevirtual 149, 3) := by decide +kernel
theorem dX4_previousMark_14 : decode cX4_previousMark 14 = .ok (.ireturn, 1) := by decide +kernel
theorem dX4_nearestMark_0 : decode cX4_nearestMark 0 = .ok (.aload_n 0, 1) := by decide +kernel
theorem dX4_nearestMark_1 : decode cX4_nearestMark 1 = .ok (.iload_n 1, 1) := by decide +kernel
theorem dX4_nearestMark_2 : decode cX4_nearestMark 2 = .ok (.invokestatic 74, 3) := by decide +kernel
theorem dX4_nearestMark_5 : decode cX4_nearestMark 5 = .ok (.aload_n 0, 1) := by decide +kernel
theorem dX4_nearestMark_6 : decode cX4_nearestMark 6 = .ok (.iload_n 1, 1) := by decide +kernel
theorem dX4_nearestMark_7 : decode cX4_nearestMark 7 = .ok (.iconst 2, 1) := by decide +kernel
theorem dX4_nearestMark_8 : decode cX4_nearestMark 8 = .ok (.invokevirtual 153, 3) := by decide +kernel
theorem dX4_nearestMark_11 : decode cX4_nearestMark 11 = .ok (.invokevirtual 149, 3) := by decide +kernel
theorem dX4_nearestMark_14 : decode cX4_nearestMark 14 = .ok (.ireturn, 1) := by decide +kernel
theorem dX4_chapterOf_0 : decode cX4_chapterOf 0 = .ok (.aload_n 0, 1) := by decide +kernel
theorem dX4_chapterOf_1 : decode cX4_chapterOf 1 = .ok (.iload_n 1, 1) := by decide +kernel
theorem dX4_chapterOf_2 : decode cX4_chapterOf 2 = .ok (.invokestatic 74, 3) := by decide +kernel
theorem dX4_chapterOf_5 : decode cX4_chapterOf 5 = .ok (.invokevirtual 49, 3) := by decide +kernel
theorem dX4_chapterOf_8 : decode cX4_chapterOf 8 = .ok (.ifCond .eq 11, 3) := by decide +kernel
theorem dX4_chapterOf_11 : decode cX4_chapterOf 11 = .ok (.aload_n 0, 1) := by decide +kernel
theorem dX4_chapterOf_12 : decode cX4_chapterOf 12 = .ok (.iload_n 1, 1) := by decide +kernel
theorem dX4_chapterOf_13 : decode cX4_chapterOf 13 = .ok (.invokevirtual 61, 3) := by decide +kernel
theorem dX4_chapterOf_16 : decode cX4_chapterOf 16 = .ok (.goto 4, 3) := by decide +kernel
theorem dX4_chapterOf_19 : decode cX4_chapterOf 19 = .ok (.iconst 0, 1) := by decide +kernel
theorem dX4_chapterOf_20 : decode cX4_chapterOf 20 = .ok (.ireturn, 1) := by decide +kernel
theorem dX4_firstPage_0 : decode cX4_firstPage 0 = .ok (.aload_n 0, 1) := by decide +kernel
theorem dX4_firstPage_1 : decode cX4_firstPage 1 = .ok (.aload_n 0, 1) := by decide +kernel
theorem dX4_firstPage_2 : decode cX4_firstPage 2 = .ok (.iload_n 1, 1) := by decide +kernel
theorem dX4_firstPage_3 : decode cX4_firstPage 3 = .ok (.invokevirtual 129, 3) := by decide +kernel
theorem dX4_firstPage_6 : decode cX4_firstPage 6 = .ok (.invokevirtual 49, 3) := by decide +kernel
theorem dX4_firstPage_9 : decode cX4_firstPage 9 = .ok (.ifCond .eq 11, 3) := by decide +kernel
theorem dX4_firstPage_12 : decode cX4_firstPage 12 = .ok (.aload_n 0, 1) := by decide +kernel
theorem dX4_firstPage_13 : decode cX4_firstPage 13 = .ok (.iload_n 1, 1) := by decide +kernel
theorem dX4_firstPage_14 : decode cX4_firstPage 14 = .ok (.invokevirtual 123, 3) := by decide +kernel
theorem dX4_firstPage_17 : decode cX4_firstPage 17 = .ok (.goto 4, 3) := by decide +kernel
theorem dX4_firstPage_20 : decode cX4_firstPage 20 = .ok (.iconst 0, 1) := by decide +kernel
theorem dX4_firstPage_21 : decode cX4_firstPage 21 = .ok (.ireturn, 1) := by decide +kernel
theorem dX4_lastPage_0 : decode cX4_lastPage 0 = .ok (.aload_n 0, 1) := by decide +kernel
theorem dX4_lastPage_1 : decode cX4_lastPage 1 = .ok (.aload_n 0, 1) := by decide +kernel
theorem dX4_lastPage_2 : decode cX4_lastPage 2 = .ok (.iload_n 1, 1) := by decide +kernel
theorem dX4_lastPage_3 : decode cX4_lastPage 3 = .ok (.invokevirtual 129, 3) := by decide +kernel
theorem dX4_lastPage_6 : decode cX4_lastPage 6 = .ok (.invokevirtual 49, 3) := by decide +kernel
theorem dX4_lastPage_9 : decode cX4_lastPage 9 = .ok (.ifCond .eq 11, 3) := by decide +kernel
theorem dX4_lastPage_12 : decode cX4_lastPage 12 = .ok (.aload_n 0, 1) := by decide +kernel
theorem dX4_lastPage_13 : decode cX4_lastPage 13 = .ok (.iload_n 1, 1) := by decide +kernel
theorem dX4_lastPage_14 : decode cX4_lastPage 14 = .ok (.invokevirtual 156, 3) := by decide +kernel
theorem dX4_lastPage_17 : decode cX4_lastPage 17 = .ok (.goto 4, 3) := by decide +kernel
theorem dX4_lastPage_20 : decode cX4_lastPage 20 = .ok (.iconst 0, 1) := by decide +kernel
theorem dX4_lastPage_21 : decode cX4_lastPage 21 = .ok (.ireturn, 1) := by decide +kernel
theorem dX4_heldPages_0 : decode cX4_heldPages 0 = .ok (.aload_n 0, 1) := by decide +kernel
theorem dX4_heldPages_1 : decode cX4_heldPages 1 = .ok (.aload_n 0, 1) := by decide +kernel
theorem dX4_heldPages_2 : decode cX4_heldPages 2 = .ok (.iload_n 1, 1) := by decide +kernel
theorem dX4_heldPages_3 : decode cX4_heldPages 3 = .ok (.invokevirtual 129, 3) := by decide +kernel
theorem dX4_heldPages_6 : decode cX4_heldPages 6 = .ok (.invokevirtual 49, 3) := by decide +kernel
theorem dX4_heldPages_9 : decode cX4_heldPages 9 = .ok (.ifCond .eq 12, 3) := by decide +kernel
theorem dX4_heldPages_12 : decode cX4_heldPages 12 = .ok (.aload_n 0, 1) := by decide +kernel
theorem dX4_heldPages_13 : decode cX4_heldPages 13 = .ok (.iload_n 1, 1) := by decide +kernel
theorem dX4_heldPages_14 : decode cX4_heldPages 14 = .ok (.iconst 0, 1) := by decide +kernel
theorem dX4_heldPages_15 : decode cX4_heldPages 15 = .ok (.invokevirtual 159, 3) := by decide +kernel
theorem dX4_heldPages_18 : decode cX4_heldPages 18 = .ok (.goto 4, 3) := by decide +kernel
theorem dX4_heldPages_21 : decode cX4_heldPages 21 = .ok (.iconst 0, 1) := by decide +kernel
theorem dX4_heldPages_22 : decode cX4_heldPages 22 = .ok (.ireturn, 1) := by decide +kernel
theorem dX4_heldPagesByMarks_0 : decode cX4_heldPagesByMarks 0 = .ok (.aload_n 0, 1) := by decide +kernel
theorem dX4_heldPagesByMarks_1 : decode cX4_heldPagesByMarks 1 = .ok (.iload_n 1, 1) := by decide +kernel
theorem dX4_heldPagesByMarks_2 : decode cX4_heldPagesByMarks 2 = .ok (.invokevirtual 162, 3) := by decide +kernel
theorem dX4_heldPagesByMarks_5 : decode cX4_heldPagesByMarks 5 = .ok (.ireturn, 1) := by decide +kernel
theorem dX4_chapterWeight_0 : decode cX4_chapterWeight 0 = .ok (.aload_n 0, 1) := by decide +kernel
theorem dX4_chapterWeight_1 : decode cX4_chapterWeight 1 = .ok (.aload_n 0, 1) := by decide +kernel
theorem dX4_chapterWeight_2 : decode cX4_chapterWeight 2 = .ok (.iload_n 1, 1) := by decide +kernel
theorem dX4_chapterWeight_3 : decode cX4_chapterWeight 3 = .ok (.invokevirtual 129, 3) := by decide +kernel
theorem dX4_chapterWeight_6 : decode cX4_chapterWeight 6 = .ok (.invokevirtual 49, 3) := by decide +kernel
theorem dX4_chapterWeight_9 : decode cX4_chapterWeight 9 = .ok (.ifCond .eq 12, 3) := by decide +kernel
theorem dX4_chapterWeight_12 : decode cX4_chapterWeight 12 = .ok (.aload_n 0, 1) := by decide +kernel
theorem dX4_chapterWeight_13 : decode cX4_chapterWeight 13 = .ok (.iload_n 1, 1) := by decide +kernel
theorem dX4_chapterWeight_14 : decode cX4_chapterWeight 14 = .ok (.iconst 1, 1) := by decide +kernel
theorem dX4_chapterWeight_15 : decode cX4_chapterWeight 15 = .ok (.invokevirtual 159, 3) := by decide +kernel
theorem dX4_chapterWeight_18 : decode cX4_chapterWeight 18 = .ok (.goto 4, 3) := by decide +kernel
theorem dX4_chapterWeight_21 : decode cX4_chapterWeight 21 = .ok (.iconst 0, 1) := by decide +kernel
theorem dX4_chapterWeight_22 : decode cX4_chapterWeight 22 = .ok (.ireturn, 1) := by decide +kernel
theorem dX4_weightInFavour_0 : decode cX4_weightInFavour 0 = .ok (.aload_n 0, 1) := by decide +kernel
theorem dX4_weightInFavour_1 : decode cX4_weightInFavour 1 = .ok (.aload_n 0, 1) := by decide +kernel
theorem dX4_weightInFavour_2 : decode cX4_weightInFavour 2 = .ok (.iload_n 1, 1) := by decide +kernel
theorem dX4_weightInFavour_3 : decode cX4_weightInFavour 3 = .ok (.invokevirtual 129, 3) := by decide +kernel
theorem dX4_weightInFavour_6 : decode cX4_weightInFavour 6 = .ok (.invokevirtual 49, 3) := by decide +kernel
theorem dX4_weightInFavour_9 : decode cX4_weightInFavour 9 = .ok (.ifCond .eq 11, 3) := by decide +kernel
theorem dX4_weightInFavour_12 : decode cX4_weightInFavour 12 = .ok (.aload_n 0, 1) := by decide +kernel
theorem dX4_weightInFavour_13 : decode cX4_weightInFavour 13 = .ok (.iload_n 1, 1) := by decide +kernel
theorem dX4_weightInFavour_14 : decode cX4_weightInFavour 14 = .ok (.invokevirtual 65, 3) := by decide +kernel
theorem dX4_weightInFavour_17 : decode cX4_weightInFavour 17 = .ok (.goto 4, 3) := by decide +kernel
theorem dX4_weightInFavour_20 : decode cX4_weightInFavour 20 = .ok (.iconst 0, 1) := by decide +kernel
theorem dX4_weightInFavour_21 : decode cX4_weightInFavour 21 = .ok (.ireturn, 1) := by decide +kernel
theorem dX4_weightAgainst_0 : decode cX4_weightAgainst 0 = .ok (.aload_n 0, 1) := by decide +kernel
theorem dX4_weightAgainst_1 : decode cX4_weightAgainst 1 = .ok (.aload_n 0, 1) := by decide +kernel
theorem dX4_weightAgainst_2 : decode cX4_weightAgainst 2 = .ok (.iload_n 1, 1) := by decide +kernel
theorem dX4_weightAgainst_3 : decode cX4_weightAgainst 3 = .ok (.invokevirtual 129, 3) := by decide +kernel
theorem dX4_weightAgainst_6 : decode cX4_weightAgainst 6 = .ok (.invokevirtual 49, 3) := by decide +kernel
theorem dX4_weightAgainst_9 : decode cX4_weightAgainst 9 = .ok (.ifCond .eq 17, 3) := by decide +kernel
theorem dX4_weightAgainst_12 : decode cX4_weightAgainst 12 = .ok (.aload_n 0, 1) := by decide +kernel
theorem dX4_weightAgainst_13 : decode cX4_weightAgainst 13 = .ok (.iconst 0, 1) := by decide +kernel
theorem dX4_weightAgainst_14 : decode cX4_weightAgainst 14 = .ok (.invokevirtual 68, 3) := by decide +kernel
theorem dX4_weightAgainst_17 : decode cX4_weightAgainst 17 = .ok (.aload_n 0, 1) := by decide +kernel
theorem dX4_weightAgainst_18 : decode cX4_weightAgainst 18 = .ok (.iload_n 1, 1) := by decide +kernel
theorem dX4_weightAgainst_19 : decode cX4_weightAgainst 19 = .ok (.invokevirtual 65, 3) := by decide +kernel
theorem dX4_weightAgainst_22 : decode cX4_weightAgainst 22 = .ok (.isub, 1) := by decide +kernel
theorem dX4_weightAgainst_23 : decode cX4_weightAgainst 23 = .ok (.goto 4, 3) := by decide +kernel
theorem dX4_weightAgainst_26 : decode cX4_weightAgainst 26 = .ok (.iconst 0, 1) := by decide +kernel
theorem dX4_weightAgainst_27 : decode cX4_weightAgainst 27 = .ok (.ireturn, 1) := by decide +kernel
theorem dX4_weightAgainstByTotal_0 : decode cX4_weightAgainstByTotal 0 = .ok (.aload_n 0, 1) := by decide +kernel
theorem dX4_weightAgainstByTotal_1 : decode cX4_weightAgainstByTotal 1 = .ok (.iload_n 1, 1) := by decide +kernel
theorem dX4_weightAgainstByTotal_2 : decode cX4_weightAgainstByTotal 2 = .ok (.invokevirtual 165, 3) := by decide +kernel
theorem dX4_weightAgainstByTotal_5 : decode cX4_weightAgainstByTotal 5 = .ok (.ireturn, 1) := by decide +kernel
theorem dX4_wouldDissolve_0 : decode cX4_wouldDissolve 0 = .ok (.aload_n 0, 1) := by decide +kernel
theorem dX4_wouldDissolve_1 : decode cX4_wouldDissolve 1 = .ok (.aload_n 0, 1) := by decide +kernel
theorem dX4_wouldDissolve_2 : decode cX4_wouldDissolve 2 = .ok (.iload_n 1, 1) := by decide +kernel
theorem dX4_wouldDissolve_3 : decode cX4_wouldDissolve 3 = .ok (.invokevirtual 129, 3) := by decide +kernel
theorem dX4_wouldDissolve_6 : decode cX4_wouldDissolve 6 = .ok (.invokevirtual 49, 3) := by decide +kernel
theorem dX4_wouldDissolve_9 : decode cX4_wouldDissolve 9 = .ok (.ifCond .eq 15, 3) := by decide +kernel
theorem dX4_wouldDissolve_12 : decode cX4_wouldDissolve 12 = .ok (.aload_n 0, 1) := by decide +kernel
theorem dX4_wouldDissolve_13 : decode cX4_wouldDissolve 13 = .ok (.iload_n 1, 1) := by decide +kernel
theorem dX4_wouldDissolve_14 : decode cX4_wouldDissolve 14 = .ok (.invokevirtual 132, 3) := by decide +kernel
theorem dX4_wouldDissolve_17 : decode cX4_wouldDissolve 17 = .ok (.ifCond .eq 7, 3) := by decide +kernel
theorem dX4_wouldDissolve_20 : decode cX4_wouldDissolve 20 = .ok (.iconst 1, 1) := by decide +kernel
theorem dX4_wouldDissolve_21 : decode cX4_wouldDissolve 21 = .ok (.goto 4, 3) := by decide +kernel
theorem dX4_wouldDissolve_24 : decode cX4_wouldDissolve 24 = .ok (.iconst 0, 1) := by decide +kernel
theorem dX4_wouldDissolve_25 : decode cX4_wouldDissolve 25 = .ok (.ireturn, 1) := by decide +kernel
theorem dX4_heaviestChapter_0 : decode cX4_heaviestChapter 0 = .ok (.aload_n 0, 1) := by decide +kernel
theorem dX4_heaviestChapter_1 : decode cX4_heaviestChapter 1 = .ok (.iconst 0, 1) := by decide +kernel
theorem dX4_heaviestChapter_2 : decode cX4_heaviestChapter 2 = .ok (.putfield 27, 3) := by decide +kernel
theorem dX4_heaviestChapter_5 : decode cX4_heaviestChapter 5 = .ok (.iconst 0, 1) := by decide +kernel
theorem dX4_heaviestChapter_6 : decode cX4_heaviestChapter 6 = .ok (.istore_n 1, 1) := by decide +kernel
theorem dX4_heaviestChapter_7 : decode cX4_heaviestChapter 7 = .ok (.iconst 1, 1) := by decide +kernel
theorem dX4_heaviestChapter_8 : decode cX4_heaviestChapter 8 = .ok (.istore_n 2, 1) := by decide +kernel
theorem dX4_heaviestChapter_9 : decode cX4_heaviestChapter 9 = .ok (.iload_n 2, 1) := by decide +kernel
theorem dX4_heaviestChapter_10 : decode cX4_heaviestChapter 10 = .ok (.aload_n 0, 1) := by decide +kernel
theorem dX4_heaviestChapter_11 : decode cX4_heaviestChapter 11 = .ok (.getfield 9, 3) := by decide +kernel
theorem dX4_heaviestChapter_14 : decode cX4_heaviestChapter 14 = .ok (.iconst 2, 1) := by decide +kernel
theorem dX4_heaviestChapter_15 : decode cX4_heaviestChapter 15 = .ok (.iaload, 1) := by decide +kernel
theorem dX4_heaviestChapter_16 : decode cX4_heaviestChapter 16 = .ok (.if_icmp .ge 30, 3) := by decide +kernel
theorem dX4_heaviestChapter_19 : decode cX4_heaviestChapter 19 = .ok (.aload_n 0, 1) := by decide +kernel
theorem dX4_heaviestChapter_20 : decode cX4_heaviestChapter 20 = .ok (.iload_n 2, 1) := by decide +kernel
theorem dX4_heaviestChapter_21 : decode cX4_heaviestChapter 21 = .ok (.iconst 1, 1) := by decide +kernel
theorem dX4_heaviestChapter_22 : decode cX4_heaviestChapter 22 = .ok (.invokevirtual 159, 3) := by decide +kernel
theorem dX4_heaviestChapter_25 : decode cX4_heaviestChapter 25 = .ok (.aload_n 0, 1) := by decide +kernel
theorem dX4_heaviestChapter_26 : decode cX4_heaviestChapter 26 = .ok (.iload_n 1, 1) := by decide +kernel
theorem dX4_heaviestChapter_27 : decode cX4_heaviestChapter 27 = .ok (.iconst 1, 1) := by decide +kernel
theorem dX4_heaviestChapter_28 : decode cX4_heaviestChapter 28 = .ok (.invokevirtual 159, 3) := by decide +kernel
theorem dX4_heaviestChapter_31 : decode cX4_heaviestChapter 31 = .ok (.if_icmp .le 7, 3) := by decide +kernel
theorem dX4_heaviestChapter_34 : decode cX4_heaviestChapter 34 = .ok (.iload_n 2, 1) := by decide +kernel
theorem dX4_heaviestChapter_35 : decode cX4_heaviestChapter 35 = .ok (.goto 4, 3) := by decide +kernel
theorem dX4_heaviestChapter_38 : decode cX4_heaviestChapter 38 = .ok (.iload_n 1, 1) := by decide +kernel
theorem dX4_heaviestChapter_39 : decode cX4_heaviestChapter 39 = .ok (.istore_n 1, 1) := by decide +kernel
theorem dX4_heaviestChapter_40 : decode cX4_heaviestChapter 40 = .ok (.iinc 2 1, 3) := by decide +kernel
theorem dX4_heaviestChapter_43 : decode cX4_heaviestChapter 43 = .ok (.goto (-34), 3) := by decide +kernel
theorem dX4_heaviestChapter_46 : decode cX4_heaviestChapter 46 = .ok (.iload_n 1, 1) := by decide +kernel
theorem dX4_heaviestChapter_47 : decode cX4_heaviestChapter 47 = .ok (.ireturn, 1) := by decide +kernel
theorem dX4_currentPage_0 : decode cX4_currentPage 0 = .ok (.aload_n 0, 1) := by decide +kernel
theorem dX4_currentPage_1 : decode cX4_currentPage 1 = .ok (.iconst 0, 1) := by decide +kernel
theorem dX4_currentPage_2 : decode cX4_currentPage 2 = .ok (.putfield 27, 3) := by decide +kernel
theorem dX4_currentPage_5 : decode cX4_currentPage 5 = .ok (.aload_n 0, 1) := by decide +kernel
theorem dX4_currentPage_6 : decode cX4_currentPage 6 = .ok (.getfield 9, 3) := by decide +kernel
theorem dX4_currentPage_9 : decode cX4_currentPage 9 = .ok (.iconst 3, 1) := by decide +kernel
theorem dX4_currentPage_10 : decode cX4_currentPage 10 = .ok (.iaload, 1) := by decide +kernel
theorem dX4_currentPage_11 : decode cX4_currentPage 11 = .ok (.ireturn, 1) := by decide +kernel
theorem dX4_pagesToNextMark_0 : decode cX4_pagesToNextMark 0 = .ok (.aload_n 0, 1) := by decide +kernel
theorem dX4_pagesToNextMark_1 : decode cX4_pagesToNextMark 1 = .ok (.getfield 9, 3) := by decide +kernel
theorem dX4_pagesToNextMark_4 : decode cX4_pagesToNextMark 4 = .ok (.iconst 3, 1) := by decide +kernel
theorem dX4_pagesToNextMark_5 : decode cX4_pagesToNextMark 5 = .ok (.iaload, 1) := by decide +kernel
theorem dX4_pagesToNextMark_6 : decode cX4_pagesToNextMark 6 = .ok (.iconst 1, 1) := by decide +kernel
theorem dX4_pagesToNextMark_7 : decode cX4_pagesToNextMark 7 = .ok (.iadd, 1) := by decide +kernel
theorem dX4_pagesToNextMark_8 : decode cX4_pagesToNextMark 8 = .ok (.bipush 60, 2) := by decide +kernel
theorem dX4_pagesToNextMark_10 : decode cX4_pagesToNextMark 10 = .ok (.if_icmp .ge 19, 3) := by decide +kernel
theorem dX4_pagesToNextMark_13 : decode cX4_pagesToNextMark 13 = .ok (.aload_n 0, 1) := by decide +kernel
theorem dX4_pagesToNextMark_14 : decode cX4_pagesToNextMark 14 = .ok (.aload_n 0, 1) := by decide +kernel
theorem dX4_pagesToNextMark_15 : decode cX4_pagesToNextMark 15 = .ok (.getfield 9, 3) := by decide +kernel
theorem dX4_pagesToNextMark_18 : decode cX4_pagesToNextMark 18 = .ok (.iconst 3, 1) := by decide +kernel
theorem dX4_pagesToNextMark_19 : decode cX4_pagesToNextMark 19 = .ok (.iaload, 1) := by decide +kernel
theorem dX4_pagesToNextMark_20 : decode cX4_pagesToNextMark 20 = .ok (.iconst 1, 1) := by decide +kernel
theorem dX4_pagesToNextMark_21 : decode cX4_pagesToNextMark 21 = .ok (.iadd, 1) := by decide +kernel
theorem dX4_pagesToNextMark_22 : decode cX4_pagesToNextMark 22 = .ok (.iconst 0, 1) := by decide +kernel
theorem dX4_pagesToNextMark_23 : decode cX4_pagesToNextMark 23 = .ok (.invokevirtual 153, 3) := by decide +kernel
theorem dX4_pagesToNextMark_26 : decode cX4_pagesToNextMark 26 = .ok (.goto 4, 3) := by decide +kernel
theorem dX4_pagesToNextMark_29 : decode cX4_pagesToNextMark 29 = .ok (.iconst (-1), 1) := by decide +kernel
theorem dX4_pagesToNextMark_30 : decode cX4_pagesToNextMark 30 = .ok (.istore_n 1, 1) := by decide +kernel
theorem dX4_pagesToNextMark_31 : decode cX4_pagesToNextMark 31 = .ok (.aload_n 0, 1) := by decide +kernel
theorem dX4_pagesToNextMark_32 : decode cX4_pagesToNextMark 32 = .ok (.iload_n 1, 1) := by decide +kernel
theorem dX4_pagesToNextMark_33 : decode cX4_pagesToNextMark 33 = .ok (.ifCond .lt 7, 3) := by decide +kernel
theorem dX4_pagesToNextMark_36 : decode cX4_pagesToNextMark 36 = .ok (.iconst 1, 1) := by decide +kernel
theorem dX4_pagesToNextMark_37 : decode cX4_pagesToNextMark 37 = .ok (.goto 4, 3) := by decide +kernel
theorem dX4_pagesToNextMark_40 : decode cX4_pagesToNextMark 40 = .ok (.iconst 0, 1) := by decide +kernel
theorem dX4_pagesToNextMark_41 : decode cX4_pagesToNextMark 41 = .ok (.invokevirtual 49, 3) := by decide +kernel
theorem dX4_pagesToNextMark_44 : decode cX4_pagesToNextMark 44 = .ok (.ifCond .eq 19, 3) := by decide +kernel
theorem dX4_pagesToNextMark_47 : decode cX4_pagesToNextMark 47 = .ok (.aload_n 0, 1) := by decide +kernel
theorem dX4_pagesToNextMark_48 : decode cX4_pagesToNextMark 48 = .ok (.iload_n 1, 1) := by decide +kernel
theorem dX4_pagesToNextMark_49 : decode cX4_pagesToNextMark 49 = .ok (.iconst 1, 1) := by decide +kernel
theorem dX4_pagesToNextMark_50 : decode cX4_pagesToNextMark 50 = .ok (.invokevirtual 53, 3) := by decide +kernel
theorem dX4_pagesToNextMark_53 : decode cX4_pagesToNextMark 53 = .ok (.aload_n 0, 1) := by decide +kernel
theorem dX4_pagesToNextMark_54 : decode cX4_pagesToNextMark 54 = .ok (.getfield 9, 3) := by decide +kernel
theorem dX4_pagesToNextMark_57 : decode cX4_pagesToNextMark 57 = .ok (.iconst 3, 1) := by decide +kernel
theorem dX4_pagesToNextMark_58 : decode cX4_pagesToNextMark 58 = .ok (.iaload, 1) := by decide +kernel
theorem dX4_pagesToNextMark_59 : decode cX4_pagesToNextMark 59 = .ok (.isub, 1) := by decide +kernel
theorem dX4_pagesToNextMark_60 : decode cX4_pagesToNextMark 60 = .ok (.goto 4, 3) := by decide +kernel
theorem dX4_pagesToNextMark_63 : decode cX4_pagesToNextMark 63 = .ok (.iconst 0, 1) := by decide +kernel
theorem dX4_pagesToNextMark_64 : decode cX4_pagesToNextMark 64 = .ok (.ireturn, 1) := by decide +kernel
theorem dX4_earsAtRisk_0 : decode cX4_earsAtRisk 0 = .ok (.aload_n 0, 1) := by decide +kernel
theorem dX4_earsAtRisk_1 : decode cX4_earsAtRisk 1 = .ok (.iload_n 1, 1) := by decide +kernel
theorem dX4_earsAtRisk_2 : decode cX4_earsAtRisk 2 = .ok (.iconst 1, 1) := by decide +kernel
theorem dX4_earsAtRisk_3 : decode cX4_earsAtRisk 3 = .ok (.bipush 20, 2) := by decide +kernel
theorem dX4_earsAtRisk_5 : decode cX4_earsAtRisk 5 = .ok (.invokestatic 57, 3) := by decide +kernel
theorem dX4_earsAtRisk_8 : decode cX4_earsAtRisk 8 = .ok (.invokevirtual 49, 3) := by decide +kernel
theorem dX4_earsAtRisk_11 : decode cX4_earsAtRisk 11 = .ok (.ifCond .ne 5, 3) := by decide +kernel
theorem dX4_earsAtRisk_14 : decode cX4_earsAtRisk 14 = .ok (.iconst 0, 1) := by decide +kernel
theorem dX4_earsAtRisk_15 : decode cX4_earsAtRisk 15 = .ok (.ireturn, 1) := by decide +kernel
theorem dX4_earsAtRisk_16 : decode cX4_earsAtRisk 16 = .ok (.iconst 0, 1) := by decide +kernel
theorem dX4_earsAtRisk_17 : decode cX4_earsAtRisk 17 = .ok (.istore_n 3, 1) := by decide +kernel
theorem dX4_earsAtRisk_18 : decode cX4_earsAtRisk 18 = .ok (.iconst 0, 1) := by decide +kernel
theorem dX4_earsAtRisk_19 : decode cX4_earsAtRisk 19 = .ok (.istore 4, 2) := by decide +kernel
theorem dX4_earsAtRisk_21 : decode cX4_earsAtRisk 21 = .ok (.iload 4, 2) := by decide +kernel
theorem dX4_earsAtRisk_23 : decode cX4_earsAtRisk 23 = .ok (.aload_n 0, 1) := by decide +kernel
theorem dX4_earsAtRisk_24 : decode cX4_earsAtRisk 24 = .ok (.getfield 9, 3) := by decide +kernel
theorem dX4_earsAtRisk_27 : decode cX4_earsAtRisk 27 = .ok (.iconst 0, 1) := by decide +kernel
theorem dX4_earsAtRisk_28 : decode cX4_earsAtRisk 28 = .ok (.iaload, 1) := by decide +kernel
theorem dX4_earsAtRisk_29 : decode cX4_earsAtRisk 29 = .ok (.if_icmp .ge 54, 3) := by decide +kernel
theorem dX4_earsAtRisk_32 : decode cX4_earsAtRisk 32 = .ok (.iload_n 3, 1) := by decide +kernel
theorem dX4_earsAtRisk_33 : decode cX4_earsAtRisk 33 = .ok (.aload_n 0, 1) := by decide +kernel
theorem dX4_earsAtRisk_34 : decode cX4_earsAtRisk 34 = .ok (.iload 4, 2) := by decide +kernel
theorem dX4_earsAtRisk_36 : decode cX4_earsAtRisk 36 = .ok (.iconst 3, 1) := by decide +kernel
theorem dX4_earsAtRisk_37 : decode cX4_earsAtRisk 37 = .ok (.invokevirtual 53, 3) := by decide +kernel
theorem dX4_earsAtRisk_40 : decode cX4_earsAtRisk 40 = .ok (.ifCond .ne 34, 3) := by decide +kernel
theorem dX4_earsAtRisk_43 : decode cX4_earsAtRisk 43 = .ok (.aload_n 0, 1) := by decide +kernel
theorem dX4_earsAtRisk_44 : decode cX4_earsAtRisk 44 = .ok (.iload 4, 2) := by decide +kernel
theorem dX4_earsAtRisk_46 : decode cX4_earsAtRisk 46 = .ok (.iconst 4, 1) := by decide +kernel
theorem dX4_earsAtRisk_47 : decode cX4_earsAtRisk 47 = .ok (.invokevirtual 53, 3) := by decide +kernel
theorem dX4_earsAtRisk_50 : decode cX4_earsAtRisk 50 = .ok (.iconst 2, 1) := by decide +kernel
theorem dX4_earsAtRisk_51 : decode cX4_earsAtRisk 51 = .ok (.if_icmp .ne 23, 3) := by decide +kernel
theorem dX4_earsAtRisk_54 : decode cX4_earsAtRisk 54 = .ok (.aload_n 0, 1) := by decide +kernel
theorem dX4_earsAtRisk_55 : decode cX4_earsAtRisk 55 = .ok (.aload_n 0, 1) := by decide +kernel
theorem dX4_earsAtRisk_56 : decode cX4_earsAtRisk 56 = .ok (.iload 4, 2) := by decide +kernel
theorem dX4_earsAtRisk_58 : decode cX4_earsAtRisk 58 = .ok (.iconst 1, 1) := by decide +kernel
theorem dX4_earsAtRisk_59 : decode cX4_earsAtRisk 59 = .ok (.invokevirtual 53, 3) := by decide +kernel
theorem dX4_earsAtRisk_62 : decode cX4_earsAtRisk 62 = .ok (.iload_n 1, 1) := by decide +kernel
theorem dX4_earsAtRisk_63 : decode cX4_earsAtRisk 63 = .ok (.iload_n 2, 1) := by decide +kernel
theorem dX4_earsAtRisk_64 : decode cX4_earsAtRisk 64 = .ok (.invokevirtual 138, 3) := by decide +kernel
theorem dX4_earsAtRisk_67 : decode cX4_earsAtRisk 67 = .ok (.ifCond .eq 7, 3) := by decide +kernel
theorem dX4_earsAtRisk_70 : decode cX4_earsAtRisk 70 = .ok (.iconst 1, 1) := by decide +kernel
theorem dX4_earsAtRisk_71 : decode cX4_earsAtRisk 71 = .ok (.goto 4, 3) := by decide +kernel
theorem dX4_earsAtRisk_74 : decode cX4_earsAtRisk 74 = .ok (.iconst 0, 1) := by decide +kernel
theorem dX4_earsAtRisk_75 : decode cX4_earsAtRisk 75 = .ok (.iadd, 1) := by decide +kernel
theorem dX4_earsAtRisk_76 : decode cX4_earsAtRisk 76 = .ok (.istore_n 3, 1) := by decide +kernel
theorem dX4_earsAtRisk_77 : decode cX4_earsAtRisk 77 = .ok (.iinc 4 1, 3) := by decide +kernel
theorem dX4_earsAtRisk_80 : decode cX4_earsAtRisk 80 = .ok (.goto (-59), 3) := by decide +kernel
theorem dX4_earsAtRisk_83 : decode cX4_earsAtRisk 83 = .ok (.iload_n 3, 1) := by decide +kernel
theorem dX4_earsAtRisk_84 : decode cX4_earsAtRisk 84 = .ok (.ireturn, 1) := by decide +kernel
theorem dX4_pageRank_0 : decode cX4_pageRank 0 = .ok (.iconst 0, 1) := by decide +kernel
theorem dX4_pageRank_1 : decode cX4_pageRank 1 = .ok (.istore_n 2, 1) := by decide +kernel
theorem dX4_pageRank_2 : decode cX4_pageRank 2 = .ok (.iconst 0, 1) := by decide +kernel
theorem dX4_pageRank_3 : decode cX4_pageRank 3 = .ok (.istore_n 3, 1) := by decide +kernel
theorem dX4_pageRank_4 : decode cX4_pageRank 4 = .ok (.iload_n 3, 1) := by decide +kernel
theorem dX4_pageRank_5 : decode cX4_pageRank 5 = .ok (.aload_n 0, 1) := by decide +kernel
theorem dX4_pageRank_6 : decode cX4_pageRank 6 = .ok (.getfield 9, 3) := by decide +kernel
theorem dX4_pageRank_9 : decode cX4_pageRank 9 = .ok (.iconst 0, 1) := by decide +kernel
theorem dX4_pageRank_10 : decode cX4_pageRank 10 = .ok (.iaload, 1) := by decide +kernel
theorem dX4_pageRank_11 : decode cX4_pageRank 11 = .ok (.if_icmp .ge 32, 3) := by decide +kernel
theorem dX4_pageRank_14 : decode cX4_pageRank 14 = .ok (.iload_n 2, 1) := by decide +kernel
theorem dX4_pageRank_15 : decode cX4_pageRank 15 = .ok (.aload_n 0, 1) := by decide +kernel
theorem dX4_pageRank_16 : decode cX4_pageRank 16 = .ok (.iload_n 3, 1) := by decide +kernel
theorem dX4_pageRank_17 : decode cX4_pageRank 17 = .ok (.iconst 1, 1) := by decide +kernel
theorem dX4_pageRank_18 : decode cX4_pageRank 18 = .ok (.invokevirtual 53, 3) := by decide +kernel
theorem dX4_pageRank_21 : decode cX4_pageRank 21 = .ok (.aload_n 0, 1) := by decide +kernel
theorem dX4_pageRank_22 : decode cX4_pageRank 22 = .ok (.iload_n 1, 1) := by decide +kernel
theorem dX4_pageRank_23 : decode cX4_pageRank 23 = .ok (.iconst 1, 1) := by decide +kernel
theorem dX4_pageRank_24 : decode cX4_pageRank 24 = .ok (.invokevirtual 53, 3) := by decide +kernel
theorem dX4_pageRank_27 : decode cX4_pageRank 27 = .ok (.if_icmp .ge 7, 3) := by decide +kernel
theorem dX4_pageRank_30 : decode cX4_pageRank 30 = .ok (.iconst 1, 1) := by decide +kernel
theorem dX4_pageRank_31 : decode cX4_pageRank 31 = .ok (.goto 4, 3) := by decide +kernel
theorem dX4_pageRank_34 : decode cX4_pageRank 34 = .ok (.iconst 0, 1) := by decide +kernel
theorem dX4_pageRank_35 : decode cX4_pageRank 35 = .ok (.iadd, 1) := by decide +kernel
theorem dX4_pageRank_36 : decode cX4_pageRank 36 = .ok (.istore_n 2, 1) := by decide +kernel
theorem dX4_pageRank_37 : decode cX4_pageRank 37 = .ok (.iinc 3 1, 3) := by decide +kernel
theorem dX4_pageRank_40 : decode cX4_pageRank 40 = .ok (.goto (-36), 3) := by decide +kernel
theorem dX4_pageRank_43 : decode cX4_pageRank 43 = .ok (.iload_n 2, 1) := by decide +kernel
theorem dX4_pageRank_44 : decode cX4_pageRank 44 = .ok (.ireturn, 1) := by decide +kernel
theorem dX4_weightRank_0 : decode cX4_weightRank 0 = .ok (.iconst 0, 1) := by decide +kernel
theorem dX4_weightRank_1 : decode cX4_weightRank 1 = .ok (.istore_n 2, 1) := by decide +kernel
theorem dX4_weightRank_2 : decode cX4_weightRank 2 = .ok (.iconst 0, 1) := by decide +kernel
theorem dX4_weightRank_3 : decode cX4_weightRank 3 = .ok (.istore_n 3, 1) := by decide +kernel
theorem dX4_weightRank_4 : decode cX4_weightRank 4 = .ok (.iload_n 3, 1) := by decide +kernel
theorem dX4_weightRank_5 : decode cX4_weightRank 5 = .ok (.aload_n 0, 1) := by decide +kernel
theorem dX4_weightRank_6 : decode cX4_weightRank 6 = .ok (.getfield 9, 3) := by decide +kernel
theorem dX4_weightRank_9 : decode cX4_weightRank 9 = .ok (.iconst 0, 1) := by decide +kernel
theorem dX4_weightRank_10 : decode cX4_weightRank 10 = .ok (.iaload, 1) := by decide +kernel
theorem dX4_weightRank_11 : decode cX4_weightRank 11 = .ok (.if_icmp .ge 98, 3) := by decide +kernel
theorem dX4_weightRank_14 : decode cX4_weightRank 14 = .ok (.aload_n 0, 1) := by decide +kernel
theorem dX4_weightRank_15 : decode cX4_weightRank 15 = .ok (.iload_n 3, 1) := by decide +kernel
theorem dX4_weightRank_16 : decode cX4_weightRank 16 = .ok (.iconst 2, 1) := by decide +kernel
theorem dX4_weightRank_17 : decode cX4_weightRank 17 = .ok (.invokevirtual 53, 3) := by decide +kernel
theorem dX4_weightRank_20 : decode cX4_weightRank 20 = .ok (.aload_n 0, 1) := by decide +kernel
theorem dX4_weightRank_21 : decode cX4_weightRank 21 = .ok (.iload_n 1, 1) := by decide +kernel
theorem dX4_weightRank_22 : decode cX4_weightRank 22 = .ok (.iconst 2, 1) := by decide +kernel
theorem dX4_weightRank_23 : decode cX4_weightRank 23 = .ok (.invokevirtual 53, 3) := by decide +kernel
theorem dX4_weightRank_26 : decode cX4_weightRank 26 = .ok (.isub, 1) := by decide +kernel
theorem dX4_weightRank_27 : decode cX4_weightRank 27 = .ok (.istore 4, 2) := by decide +kernel
theorem dX4_weightRank_29 : decode cX4_weightRank 29 = .ok (.aload_n 0, 1) := by decide +kernel
theorem dX4_weightRank_30 : decode cX4_weightRank 30 = .ok (.iload_n 3, 1) := by decide +kernel
theorem dX4_weightRank_31 : decode cX4_weightRank 31 = .ok (.iconst 3, 1) := by decide +kernel
theorem dX4_weightRank_32 : decode cX4_weightRank 32 = .ok (.invokevirtual 53, 3) := by decide +kernel
theorem dX4_weightRank_35 : decode cX4_weightRank 35 = .ok (.ifCond .le 7, 3) := by decide +kernel
theorem dX4_weightRank_38 : decode cX4_weightRank 38 = .ok (.iconst 1, 1) := by decide +kernel
theorem dX4_weightRank_39 : decode cX4_weightRank 39 = .ok (.goto 4, 3) := by decide +kernel
theorem dX4_weightRank_42 : decode cX4_weightRank 42 = .ok (.iconst 0, 1) := by decide +kernel
theorem dX4_weightRank_43 : decode cX4_weightRank 43 = .ok (.aload_n 0, 1) := by decide +kernel
theorem dX4_weightRank_44 : decode cX4_weightRank 44 = .ok (.iload_n 1, 1) := by decide +kernel
theorem dX4_weightRank_45 : decode cX4_weightRank 45 = .ok (.iconst 3, 1) := by decide +kernel
theorem dX4_weightRank_46 : decode cX4_weightRank 46 = .ok (.invokevirtual 53, 3) := by decide +kernel
theorem dX4_weightRank_49 : decode cX4_weightRank 49 = .ok (.ifCond .le 7, 3) := by decide +kernel
theorem dX4_weightRank_52 : decode cX4_weightRank 52 = .ok (.iconst 1, 1) := by decide +kernel
theorem dX4_weightRank_53 : decode cX4_weightRank 53 = .ok (.goto 4, 3) := by decide +kernel
theorem dX4_weightRank_56 : decode cX4_weightRank 56 = .ok (.iconst 0, 1) := by decide +kernel
theorem dX4_weightRank_57 : decode cX4_weightRank 57 = .ok (.isub, 1) := by decide +kernel
theorem dX4_weightRank_58 : decode cX4_weightRank 58 = .ok (.istore 5, 2) := by decide +kernel
theorem dX4_weightRank_60 : decode cX4_weightRank 60 = .ok (.iload_n 2, 1) := by decide +kernel
theorem dX4_weightRank_61 : decode cX4_weightRank 61 = .ok (.iload 4, 2) := by decide +kernel
theorem dX4_weightRank_63 : decode cX4_weightRank 63 = .ok (.ifCond .gt 33, 3) := by decide +kernel
theorem dX4_weightRank_66 : decode cX4_weightRank 66 = .ok (.iload 4, 2) := by decide +kernel
theorem dX4_weightRank_68 : decode cX4_weightRank 68 = .ok (.ifCond .ne 32, 3) := by decide +kernel
theorem dX4_weightRank_71 : decode cX4_weightRank 71 = .ok (.iload 5, 2) := by decide +kernel
theorem dX4_weightRank_73 : decode cX4_weightRank 73 = .ok (.ifCond .gt 23, 3) := by decide +kernel
theorem dX4_weightRank_76 : decode cX4_weightRank 76 = .ok (.iload 5, 2) := by decide +kernel
theorem dX4_weightRank_78 : decode cX4_weightRank 78 = .ok (.ifCond .ne 22, 3) := by decide +kernel
theorem dX4_weightRank_81 : decode cX4_weightRank 81 = .ok (.aload_n 0, 1) := by decide +kernel
theorem dX4_weightRank_82 : decode cX4_weightRank 82 = .ok (.iload_n 3, 1) := by decide +kernel
theorem dX4_weightRank_83 : decode cX4_weightRank 83 = .ok (.iconst 1, 1) := by decide +kernel
theorem dX4_weightRank_84 : decode cX4_weightRank 84 = .ok (.invokevirtual 53, 3) := by decide +kernel
theorem dX4_weightRank_87 : decode cX4_weightRank 87 = .ok (.aload_n 0, 1) := by decide +kernel
theorem dX4_weightRank_88 : decode cX4_weightRank 88 = .ok (.iload_n 1, 1) := by decide +kernel
theorem dX4_weightRank_89 : decode cX4_weightRank 89 = .ok (.iconst 1, 1) := by decide +kernel
theorem dX4_weightRank_90 : decode cX4_weightRank 90 = .ok (.invokevirtual 53, 3) := by decide +kernel
theorem dX4_weightRank_93 : decode cX4_weightRank 93 = .ok (.if_icmp .ge 7, 3) := by decide +kernel
theorem dX4_weightRank_96 : decode cX4_weightRank 96 = .ok (.iconst 1, 1) := by decide +kernel
theorem dX4_weightRank_97 : decode cX4_weightRank 97 = .ok (.goto 4, 3) := by decide +kernel
theorem dX4_weightRank_100 : decode cX4_weightRank 100 = .ok (.iconst 0, 1) := by decide +kernel
theorem dX4_weightRank_101 : decode cX4_weightRank 101 = .ok (.iadd, 1) := by decide +kernel
theorem dX4_weightRank_102 : decode cX4_weightRank 102 = .ok (.istore_n 2, 1) := by decide +kernel
theorem dX4_weightRank_103 : decode cX4_weightRank 103 = .ok (.iinc 3 1, 3) := by decide +kernel
theorem dX4_weightRank_106 : decode cX4_weightRank 106 = .ok (.goto (-102), 3) := by decide +kernel
theorem dX4_weightRank_109 : decode cX4_weightRank 109 = .ok (.iload_n 2, 1) := by decide +kernel
theorem dX4_weightRank_110 : decode cX4_weightRank 110 = .ok (.ireturn, 1) := by decide +kernel
theorem dX4_markByPage_0 : decode cX4_markByPage 0 = .ok (.iconst 0, 1) := by decide +kernel
theorem dX4_markByPage_1 : decode cX4_markByPage 1 = .ok (.istore_n 2, 1) := by decide +kernel
theorem dX4_markByPage_2 : decode cX4_markByPage 2 = .ok (.iload_n 2, 1) := by decide +kernel
theorem dX4_markByPage_3 : decode cX4_markByPage 3 = .ok (.aload_n 0, 1) := by decide +kernel
theorem dX4_markByPage_4 : decode cX4_markByPage 4 = .ok (.getfield 9, 3) := by decide +kernel
theorem dX4_markByPage_7 : decode cX4_markByPage 7 = .ok (.iconst 0, 1) := by decide +kernel
theorem dX4_markByPage_8 : decode cX4_markByPage 8 = .ok (.iaload, 1) := by decide +kernel
theorem dX4_markByPage_9 : decode cX4_markByPage 9 = .ok (.if_icmp .ge 37, 3) := by decide +kernel
theorem dX4_markByPage_12 : decode cX4_markByPage 12 = .ok (.aload_n 0, 1) := by decide +kernel
theorem dX4_markByPage_13 : decode cX4_markByPage 13 = .ok (.aload_n 0, 1) := by decide +kernel
theorem dX4_markByPage_14 : decode cX4_markByPage 14 = .ok (.iload_n 2, 1) := by decide +kernel
theorem dX4_markByPage_15 : decode cX4_markByPage 15 = .ok (.invokevirtual 168, 3) := by decide +kernel
theorem dX4_markByPage_18 : decode cX4_markByPage 18 = .ok (.iload_n 1, 1) := by decide +kernel
theorem dX4_markByPage_19 : decode cX4_markByPage 19 = .ok (.if_icmp .ne 7, 3) := by decide +kernel
theorem dX4_markByPage_22 : decode cX4_markByPage 22 = .ok (.iconst 1, 1) := by decide +kernel
theorem dX4_markByPage_23 : decode cX4_markByPage 23 = .ok (.goto 4, 3) := by decide +kernel
theorem dX4_markByPage_26 : decode cX4_markByPage 26 = .ok (.iconst 0, 1) := by decide +kernel
theorem dX4_markByPage_27 : decode cX4_markByPage 27 = .ok (.invokevirtual 49, 3) := by decide +kernel
theorem dX4_markByPage_30 : decode cX4_markByPage 30 = .ok (.ifCond .eq 10, 3) := by decide +kernel
theorem dX4_markByPage_33 : decode cX4_markByPage 33 = .ok (.aload_n 0, 1) := by decide +kernel
theorem dX4_markByPage_34 : decode cX4_markByPage 34 = .ok (.iload_n 2, 1) := by decide +kernel
theorem dX4_markByPage_35 : decode cX4_markByPage 35 = .ok (.iconst 0, 1) := by decide +kernel
theorem dX4_markByPage_36 : decode cX4_markByPage 36 = .ok (.invokevirtual 53, 3) := by decide +kernel
theorem dX4_markByPage_39 : decode cX4_markByPage 39 = .ok (.ireturn, 1) := by decide +kernel
theorem dX4_markByPage_40 : decode cX4_markByPage 40 = .ok (.iinc 2 1, 3) := by decide +kernel
theorem dX4_markByPage_43 : decode cX4_markByPage 43 = .ok (.goto (-41), 3) := by decide +kernel
theorem dX4_markByPage_46 : decode cX4_markByPage 46 = .ok (.aload_n 0, 1) := by decide +kernel
theorem dX4_markByPage_47 : decode cX4_markByPage 47 = .ok (.iconst 1, 1) := by decide +kernel
theorem dX4_markByPage_48 : decode cX4_markByPage 48 = .ok (.putfield 27, 3) := by decide +kernel
theorem dX4_markByPage_51 : decode cX4_markByPage 51 = .ok (.iconst 0, 1) := by decide +kernel
theorem dX4_markByPage_52 : decode cX4_markByPage 52 = .ok (.ireturn, 1) := by decide +kernel
theorem dX4_markByWeight_0 : decode cX4_markByWeight 0 = .ok (.iconst 0, 1) := by decide +kernel
theorem dX4_markByWeight_1 : decode cX4_markByWeight 1 = .ok (.istore_n 2, 1) := by decide +kernel
theorem dX4_markByWeight_2 : decode cX4_markByWeight 2 = .ok (.iload_n 2, 1) := by decide +kernel
theorem dX4_markByWeight_3 : decode cX4_markByWeight 3 = .ok (.aload_n 0, 1) := by decide +kernel
theorem dX4_markByWeight_4 : decode cX4_markByWeight 4 = .ok (.getfield 9, 3) := by decide +kernel
theorem dX4_markByWeight_7 : decode cX4_markByWeight 7 = .ok (.iconst 0, 1) := by decide +kernel
theorem dX4_markByWeight_8 : decode cX4_markByWeight 8 = .ok (.iaload, 1) := by decide +kernel
theorem dX4_markByWeight_9 : decode cX4_markByWeight 9 = .ok (.if_icmp .ge 37, 3) := by decide +kernel
theorem dX4_markByWeight_12 : decode cX4_markByWeight 12 = .ok (.aload_n 0, 1) := by decide +kernel
theorem dX4_markByWeight_13 : decode cX4_markByWeight 13 = .ok (.aload_n 0, 1) := by decide +kernel
theorem dX4_markByWeight_14 : decode cX4_markByWeight 14 = .ok (.iload_n 2, 1) := by decide +kernel
theorem dX4_markByWeight_15 : decode cX4_markByWeight 15 = .ok (.invokevirtual 171, 3) := by decide +kernel
theorem dX4_markByWeight_18 : decode cX4_markByWeight 18 = .ok (.iload_n 1, 1) := by decide +kernel
theorem dX4_markByWeight_19 : decode cX4_markByWeight 19 = .ok (.if_icmp .ne 7, 3) := by decide +kernel
theorem dX4_markByWeight_22 : decode cX4_markByWeight 22 = .ok (.iconst 1, 1) := by decide +kernel
theorem dX4_markByWeight_23 : decode cX4_markByWeight 23 = .ok (.goto 4, 3) := by decide +kernel
theorem dX4_markByWeight_26 : decode cX4_markByWeight 26 = .ok (.iconst 0, 1) := by decide +kernel
theorem dX4_markByWeight_27 : decode cX4_markByWeight 27 = .ok (.invokevirtual 49, 3) := by decide +kernel
theorem dX4_markByWeight_30 : decode cX4_markByWeight 30 = .ok (.ifCond .eq 10, 3) := by decide +kernel
theorem dX4_markByWeight_33 : decode cX4_markByWeight 33 = .ok (.aload_n 0, 1) := by decide +kernel
theorem dX4_markByWeight_34 : decode cX4_markByWeight 34 = .ok (.iload_n 2, 1) := by decide +kernel
theorem dX4_markByWeight_35 : decode cX4_markByWeight 35 = .ok (.iconst 0, 1) := by decide +kernel
theorem dX4_markByWeight_36 : decode cX4_markByWeight 36 = .ok (.invokevirtual 53, 3) := by decide +kernel
theorem dX4_markByWeight_39 : decode cX4_markByWeight 39 = .ok (.ireturn, 1) := by decide +kernel
theorem dX4_markByWeight_40 : decode cX4_markByWeight 40 = .ok (.iinc 2 1, 3) := by decide +kernel
theorem dX4_markByWeight_43 : decode cX4_markByWeight 43 = .ok (.goto (-41), 3) := by decide +kernel
theorem dX4_markByWeight_46 : decode cX4_markByWeight 46 = .ok (.aload_n 0, 1) := by decide +kernel
theorem dX4_markByWeight_47 : decode cX4_markByWeight 47 = .ok (.iconst 1, 1) := by decide +kernel
theorem dX4_markByWeight_48 : decode cX4_markByWeight 48 = .ok (.putfield 27, 3) := by decide +kernel
theorem dX4_markByWeight_51 : decode cX4_markByWeight 51 = .ok (.iconst 0, 1) := by decide +kernel
theorem dX4_markByWeight_52 : decode cX4_markByWeight 52 = .ok (.ireturn, 1) := by decide +kernel
theorem dX4_span_0 : decode cX4_span 0 = .ok (.aload_n 0, 1) := by decide +kernel
theorem dX4_span_1 : decode cX4_span 1 = .ok (.iconst 0, 1) := by decide +kernel
theorem dX4_span_2 : decode cX4_span 2 = .ok (.putfield 27, 3) := by decide +kernel
theorem dX4_span_5 : decode cX4_span 5 = .ok (.sipush 1000, 3) := by decide +kernel
theorem dX4_span_8 : decode cX4_span 8 = .ok (.istore_n 1, 1) := by decide +kernel
theorem dX4_span_9 : decode cX4_span 9 = .ok (.iconst (-1), 1) := by decide +kernel
theorem dX4_span_10 : decode cX4_span 10 = .ok (.istore_n 2, 1) := by decide +kernel
theorem dX4_span_11 : decode cX4_span 11 = .ok (.iconst 0, 1) := by decide +kernel
theorem dX4_span_12 : decode cX4_span 12 = .ok (.istore_n 3, 1) := by decide +kernel
theorem dX4_span_13 : decode cX4_span 13 = .ok (.iload_n 3, 1) := by decide +kernel
theorem dX4_span_14 : decode cX4_span 14 = .ok (.aload_n 0, 1) := by decide +kernel
theorem dX4_span_15 : decode cX4_span 15 = .ok (.getfield 9, 3) := by decide +kernel
theorem dX4_span_18 : decode cX4_span 18 = .ok (.iconst 0, 1) := by decide +kernel
theorem dX4_span_19 : decode cX4_span 19 = .ok (.iaload, 1) := by decide +kernel
theorem dX4_span_20 : decode cX4_span 20 = .ok (.if_icmp .ge 51, 3) := by decide +kernel
theorem dX4_span_23 : decode cX4_span 23 = .ok (.aload_n 0, 1) := by decide +kernel
theorem dX4_span_24 : decode cX4_span 24 = .ok (.iload_n 3, 1) := by decide +kernel
theorem dX4_span_25 : decode cX4_span 25 = .ok (.iconst 1, 1) := by decide +kernel
theorem dX4_span_26 : decode cX4_span 26 = .ok (.invokevirtual 53, 3) := by decide +kernel
theorem dX4_span_29 : decode cX4_span 29 = .ok (.iload_n 1, 1) := by decide +kernel
theorem dX4_span_30 : decode cX4_span 30 = .ok (.if_icmp .ge 12, 3) := by decide +kernel
theorem dX4_span_33 : decode cX4_span 33 = .ok (.aload_n 0, 1) := by decide +kernel
theorem dX4_span_34 : decode cX4_span 34 = .ok (.iload_n 3, 1) := by decide +kernel
theorem dX4_span_35 : decode cX4_span 35 = .ok (.iconst 1, 1) := by decide +kernel
theorem dX4_span_36 : decode cX4_span 36 = .ok (.invokevirtual 53, 3) := by decide +kernel
theorem dX4_span_39 : decode cX4_span 39 = .ok (.goto 4, 3) := by decide +kernel
theorem dX4_span_42 : decode cX4_span 42 = .ok (.iload_n 1, 1) := by decide +kernel
theorem dX4_span_43 : decode cX4_span 43 = .ok (.istore_n 1, 1) := by decide +kernel
theorem dX4_span_44 : decode cX4_span 44 = .ok (.aload_n 0, 1) := by decide +kernel
theorem dX4_span_45 : decode cX4_span 45 = .ok (.iload_n 3, 1) := by decide +kernel
theorem dX4_span_46 : decode cX4_span 46 = .ok (.iconst 1, 1) := by decide +kernel
theorem dX4_span_47 : decode cX4_span 47 = .ok (.invokevirtual 53, 3) := by decide +kernel
theorem dX4_span_50 : decode cX4_span 50 = .ok (.iload_n 2, 1) := by decide +kernel
theorem dX4_span_51 : decode cX4_span 51 = .ok (.if_icmp .le 12, 3) := by decide +kernel
theorem dX4_span_54 : decode cX4_span 54 = .ok (.aload_n 0, 1) := by decide +kernel
theorem dX4_span_55 : decode cX4_span 55 = .ok (.iload_n 3, 1) := by decide +kernel
theorem dX4_span_56 : decode cX4_span 56 = .ok (.iconst 1, 1) := by decide +kernel
theorem dX4_span_57 : decode cX4_span 57 = .ok (.invokevirtual 53, 3) := by decide +kernel
theorem dX4_span_60 : decode cX4_span 60 = .ok (.goto 4, 3) := by decide +kernel
theorem dX4_span_63 : decode cX4_span 63 = .ok (.iload_n 2, 1) := by decide +kernel
theorem dX4_span_64 : decode cX4_span 64 = .ok (.istore_n 2, 1) := by decide +kernel
theorem dX4_span_65 : decode cX4_span 65 = .ok (.iinc 3 1, 3) := by decide +kernel
theorem dX4_span_68 : decode cX4_span 68 = .ok (.goto (-55), 3) := by decide +kernel
theorem dX4_span_71 : decode cX4_span 71 = .ok (.aload_n 0, 1) := by decide +kernel
theorem dX4_span_72 : decode cX4_span 72 = .ok (.getfield 9, 3) := by decide +kernel
theorem dX4_span_75 : decode cX4_span 75 = .ok (.iconst 0, 1) := by decide +kernel
theorem dX4_span_76 : decode cX4_span 76 = .ok (.iaload, 1) := by decide +kernel
theorem dX4_span_77 : decode cX4_span 77 = .ok (.iconst 2, 1) := by decide +kernel
theorem dX4_span_78 : decode cX4_span 78 = .ok (.if_icmp .ge 7, 3) := by decide +kernel
theorem dX4_span_81 : decode cX4_span 81 = .ok (.iconst 0, 1) := by decide +kernel
theorem dX4_span_82 : decode cX4_span 82 = .ok (.goto 6, 3) := by decide +kernel
theorem dX4_span_85 : decode cX4_span 85 = .ok (.iload_n 2, 1) := by decide +kernel
theorem dX4_span_86 : decode cX4_span 86 = .ok (.iload_n 1, 1) := by decide +kernel
theorem dX4_span_87 : decode cX4_span 87 = .ok (.isub, 1) := by decide +kernel
theorem dX4_span_88 : decode cX4_span 88 = .ok (.ireturn, 1) := by decide +kernel
theorem dX4_spanByEnds_0 : decode cX4_spanByEnds 0 = .ok (.aload_n 0, 1) := by decide +kernel
theorem dX4_spanByEnds_1 : decode cX4_spanByEnds 1 = .ok (.invokevirtual 174, 3) := by decide +kernel
theorem dX4_spanByEnds_4 : decode cX4_spanByEnds 4 = .ok (.ireturn, 1) := by decide +kernel
theorem dX4_ribbonWeight_0 : decode cX4_ribbonWeight 0 = .ok (.aload_n 0, 1) := by decide +kernel
theorem dX4_ribbonWeight_1 : decode cX4_ribbonWeight 1 = .ok (.iconst 0, 1) := by decide +kernel
theorem dX4_ribbonWeight_2 : decode cX4_ribbonWeight 2 = .ok (.putfield 27, 3) := by decide +kernel
theorem dX4_ribbonWeight_5 : decode cX4_ribbonWeight 5 = .ok (.aload_n 0, 1) := by decide +kernel
theorem dX4_ribbonWeight_6 : decode cX4_ribbonWeight 6 = .ok (.iconst 1, 1) := by decide +kernel
theorem dX4_ribbonWeight_7 : decode cX4_ribbonWeight 7 = .ok (.invokevirtual 68, 3) := by decide +kernel
theorem dX4_ribbonWeight_10 : decode cX4_ribbonWeight 10 = .ok (.ireturn, 1) := by decide +kernel
theorem dX4_dogEarWeight_0 : decode cX4_dogEarWeight 0 = .ok (.aload_n 0, 1) := by decide +kernel
theorem dX4_dogEarWeight_1 : decode cX4_dogEarWeight 1 = .ok (.iconst 0, 1) := by decide +kernel
theorem dX4_dogEarWeight_2 : decode cX4_dogEarWeight 2 = .ok (.putfield 27, 3) := by decide +kernel
theorem dX4_dogEarWeight_5 : decode cX4_dogEarWeight 5 = .ok (.aload_n 0, 1) := by decide +kernel
theorem dX4_dogEarWeight_6 : decode cX4_dogEarWeight 6 = .ok (.iconst 2, 1) := by decide +kernel
theorem dX4_dogEarWeight_7 : decode cX4_dogEarWeight 7 = .ok (.invokevirtual 68, 3) := by decide +kernel
theorem dX4_dogEarWeight_10 : decode cX4_dogEarWeight 10 = .ok (.ireturn, 1) := by decide +kernel
theorem dX4_markCount_0 : decode cX4_markCount 0 = .ok (.aload_n 0, 1) := by decide +kernel
theorem dX4_markCount_1 : decode cX4_markCount 1 = .ok (.iconst 0, 1) := by decide +kernel
theorem dX4_markCount_2 : decode cX4_markCount 2 = .ok (.putfield 27, 3) := by decide +kernel
theorem dX4_markCount_5 : decode cX4_markCount 5 = .ok (.aload_n 0, 1) := by decide +kernel
theorem dX4_markCount_6 : decode cX4_markCount 6 = .ok (.getfield 9, 3) := by decide +kernel
theorem dX4_markCount_9 : decode cX4_markCount 9 = .ok (.iconst 0, 1) := by decide +kernel
theorem dX4_markCount_10 : decode cX4_markCount 10 = .ok (.iaload, 1) := by decide +kernel
theorem dX4_markCount_11 : decode cX4_markCount 11 = .ok (.ireturn, 1) := by decide +kernel
theorem dX4_ribbonCount_0 : decode cX4_ribbonCount 0 = .ok (.aload_n 0, 1) := by decide +kernel
theorem dX4_ribbonCount_1 : decode cX4_ribbonCount 1 = .ok (.iconst 0, 1) := by decide +kernel
theorem dX4_ribbonCount_2 : decode cX4_ribbonCount 2 = .ok (.putfield 27, 3) := by decide +kernel
theorem dX4_ribbonCount_5 : decode cX4_ribbonCount 5 = .ok (.iconst 0, 1) := by decide +kernel
theorem dX4_ribbonCount_6 : decode cX4_ribbonCount 6 = .ok (.istore_n 1, 1) := by decide +kernel
theorem dX4_ribbonCount_7 : decode cX4_ribbonCount 7 = .ok (.iconst 0, 1) := by decide +kernel
theorem dX4_ribbonCount_8 : decode cX4_ribbonCount 8 = .ok (.istore_n 2, 1) := by decide +kernel
theorem dX4_ribbonCount_9 : decode cX4_ribbonCount 9 = .ok (.iload_n 2, 1) := by decide +kernel
theorem dX4_ribbonCount_10 : decode cX4_ribbonCount 10 = .ok (.aload_n 0, 1) := by decide +kernel
theorem dX4_ribbonCount_11 : decode cX4_ribbonCount 11 = .ok (.getfield 9, 3) := by decide +kernel
theorem dX4_ribbonCount_14 : decode cX4_ribbonCount 14 = .ok (.iconst 0, 1) := by decide +kernel
theorem dX4_ribbonCount_15 : decode cX4_ribbonCount 15 = .ok (.iaload, 1) := by decide +kernel
theorem dX4_ribbonCount_16 : decode cX4_ribbonCount 16 = .ok (.if_icmp .ge 26, 3) := by decide +kernel
theorem dX4_ribbonCount_19 : decode cX4_ribbonCount 19 = .ok (.iload_n 1, 1) := by decide +kernel
theorem dX4_ribbonCount_20 : decode cX4_ribbonCount 20 = .ok (.aload_n 0, 1) := by decide +kernel
theorem dX4_ribbonCount_21 : decode cX4_ribbonCount 21 = .ok (.iload_n 2, 1) := by decide +kernel
theorem dX4_ribbonCount_22 : decode cX4_ribbonCount 22 = .ok (.iconst 3, 1) := by decide +kernel
theorem dX4_ribbonCount_23 : decode cX4_ribbonCount 23 = .ok (.invokevirtual 53, 3) := by decide +kernel
theorem dX4_ribbonCount_26 : decode cX4_ribbonCount 26 = .ok (.ifCond .le 7, 3) := by decide +kernel
theorem dX4_ribbonCount_29 : decode cX4_ribbonCount 29 = .ok (.iconst 1, 1) := by decide +kernel
theorem dX4_ribbonCount_30 : decode cX4_ribbonCount 30 = .ok (.goto 4, 3) := by decide +kernel
theorem dX4_ribbonCount_33 : decode cX4_ribbonCount 33 = .ok (.iconst 0, 1) := by decide +kernel
theorem dX4_ribbonCount_34 : decode cX4_ribbonCount 34 = .ok (.iadd, 1) := by decide +kernel
theorem dX4_ribbonCount_35 : decode cX4_ribbonCount 35 = .ok (.istore_n 1, 1) := by decide +kernel
theorem dX4_ribbonCount_36 : decode cX4_ribbonCount 36 = .ok (.iinc 2 1, 3) := by decide +kernel
theorem dX4_ribbonCount_39 : decode cX4_ribbonCount 39 = .ok (.goto (-30), 3) := by decide +kernel
theorem dX4_ribbonCount_42 : decode cX4_ribbonCount 42 = .ok (.iload_n 1, 1) := by decide +kernel
theorem dX4_ribbonCount_43 : decode cX4_ribbonCount 43 = .ok (.ireturn, 1) := by decide +kernel
theorem dX4_chapterCount_0 : decode cX4_chapterCount 0 = .ok (.aload_n 0, 1) := by decide +kernel
theorem dX4_chapterCount_1 : decode cX4_chapterCount 1 = .ok (.iconst 0, 1) := by decide +kernel
theorem dX4_chapterCount_2 : decode cX4_chapterCount 2 = .ok (.putfield 27, 3) := by decide +kernel
theorem dX4_chapterCount_5 : decode cX4_chapterCount 5 = .ok (.aload_n 0, 1) := by decide +kernel
theorem dX4_chapterCount_6 : decode cX4_chapterCount 6 = .ok (.getfield 9, 3) := by decide +kernel
theorem dX4_chapterCount_9 : decode cX4_chapterCount 9 = .ok (.iconst 2, 1) := by decide +kernel
theorem dX4_chapterCount_10 : decode cX4_chapterCount 10 = .ok (.iaload, 1) := by decide +kernel
theorem dX4_chapterCount_11 : decode cX4_chapterCount 11 = .ok (.ireturn, 1) := by decide +kernel
theorem dX4_votesHeld_0 : decode cX4_votesHeld 0 = .ok (.aload_n 0, 1) := by decide +kernel
theorem dX4_votesHeld_1 : decode cX4_votesHeld 1 = .ok (.iconst 0, 1) := by decide +kernel
theorem dX4_votesHeld_2 : decode cX4_votesHeld 2 = .ok (.putfield 27, 3) := by decide +kernel
theorem dX4_votesHeld_5 : decode cX4_votesHeld 5 = .ok (.aload_n 0, 1) := by decide +kernel
theorem dX4_votesHeld_6 : decode cX4_votesHeld 6 = .ok (.getfield 9, 3) := by decide +kernel
theorem dX4_votesHeld_9 : decode cX4_votesHeld 9 = .ok (.iconst 4, 1) := by decide +kernel
theorem dX4_votesHeld_10 : decode cX4_votesHeld 10 = .ok (.iaload, 1) := by decide +kernel
theorem dX4_votesHeld_11 : decode cX4_votesHeld 11 = .ok (.ireturn, 1) := by decide +kernel
theorem dX4_motionsCarried_0 : decode cX4_motionsCarried 0 = .ok (.aload_n 0, 1) := by decide +kernel
theorem dX4_motionsCarried_1 : decode cX4_motionsCarried 1 = .ok (.iconst 0, 1) := by decide +kernel
theorem dX4_motionsCarried_2 : decode cX4_motionsCarried 2 = .ok (.putfield 27, 3) := by decide +kernel
theorem dX4_motionsCarried_5 : decode cX4_motionsCarried 5 = .ok (.aload_n 0, 1) := by decide +kernel
theorem dX4_motionsCarried_6 : decode cX4_motionsCarried 6 = .ok (.getfield 9, 3) := by decide +kernel
theorem dX4_motionsCarried_9 : decode cX4_motionsCarried 9 = .ok (.iconst 5, 1) := by decide +kernel
theorem dX4_motionsCarried_10 : decode cX4_motionsCarried 10 = .ok (.iaload, 1) := by decide +kernel
theorem dX4_motionsCarried_11 : decode cX4_motionsCarried 11 = .ok (.ireturn, 1) := by decide +kernel
theorem dX4_fallenEars_0 : decode cX4_fallenEars 0 = .ok (.aload_n 0, 1) := by decide +kernel
theorem dX4_fallenEars_1 : decode cX4_fallenEars 1 = .ok (.iconst 0, 1) := by decide +kernel
theorem dX4_fallenEars_2 : decode cX4_fallenEars 2 = .ok (.putfield 27, 3) := by decide +kernel
theorem dX4_fallenEars_5 : decode cX4_fallenEars 5 = .ok (.aload_n 0, 1) := by decide +kernel
theorem dX4_fallenEars_6 : decode cX4_fallenEars 6 = .ok (.getfield 9, 3) := by decide +kernel
theorem dX4_fallenEars_9 : decode cX4_fallenEars 9 = .ok (.bipush 6, 2) := by decide +kernel
theorem dX4_fallenEars_11 : decode cX4_fallenEars 11 = .ok (.iaload, 1) := by decide +kernel
theorem dX4_fallenEars_12 : decode cX4_fallenEars 12 = .ok (.ireturn, 1) := by decide +kernel
theorem dX4_isConsistent_0 : decode cX4_isConsistent 0 = .ok (.aload_n 0, 1) := by decide +kernel
theorem dX4_isConsistent_1 : decode cX4_isConsistent 1 = .ok (.iconst 0, 1) := by decide +kernel
theorem dX4_isConsistent_2 : decode cX4_isConsistent 2 = .ok (.putfield 27, 3) := by decide +kernel
theorem dX4_isConsistent_5 : decode cX4_isConsistent 5 = .ok (.iconst 1, 1) := by decide +kernel
theorem dX4_isConsistent_6 : decode cX4_isConsistent 6 = .ok (.ireturn, 1) := by decide +kernel
theorem dX4_writes_0 : decode cX4_writes 0 = .ok (.aload_n 0, 1) := by decide +kernel
theorem dX4_writes_1 : decode cX4_writes 1 = .ok (.getfield 13, 3) := by decide +kernel
theorem dX4_writes_4 : decode cX4_writes 4 = .ok (.aload_n 0, 1) := by decide +kernel
theorem dX4_writes_5 : decode cX4_writes 5 = .ok (.getfield 177, 3) := by decide +kernel
theorem dX4_writes_8 : decode cX4_writes 8 = .ok (.iload_n 1, 1) := by decide +kernel
theorem dX4_writes_9 : decode cX4_writes 9 = .ok (.i2c, 1) := by decide +kernel
theorem dX4_writes_10 : decode cX4_writes 10 = .ok (.castore, 1) := by decide +kernel
theorem dX4_writes_11 : decode cX4_writes 11 = .ok (.aload_n 0, 1) := by decide +kernel
theorem dX4_writes_12 : decode cX4_writes 12 = .ok (.dup, 1) := by decide +kernel
theorem dX4_writes_13 : decode cX4_writes 13 = .ok (.getfield 177, 3) := by decide +kernel
theorem dX4_writes_16 : decode cX4_writes 16 = .ok (.iconst 1, 1) := by decide +kernel
theorem dX4_writes_17 : decode cX4_writes 17 = .ok (.iadd, 1) := by decide +kernel
theorem dX4_writes_18 : decode cX4_writes 18 = .ok (.putfield 177, 3) := by decide +kernel
theorem dX4_writes_21 : decode cX4_writes 21 = .ok (.return_, 1) := by decide +kernel
theorem dX4_writesNumber_0 : decode cX4_writesNumber 0 = .ok (.iload_n 1, 1) := by decide +kernel
theorem dX4_writesNumber_1 : decode cX4_writesNumber 1 = .ok (.bipush 9, 2) := by decide +kernel
theorem dX4_writesNumber_3 : decode cX4_writesNumber 3 = .ok (.if_icmp .le 11, 3) := by decide +kernel
theorem dX4_writesNumber_6 : decode cX4_writesNumber 6 = .ok (.aload_n 0, 1) := by decide +kernel
theorem dX4_writesNumber_7 : decode cX4_writesNumber 7 = .ok (.iload_n 1, 1) := by decide +kernel
theorem dX4_writesNumber_8 : decode cX4_writesNumber 8 = .ok (.bipush 10, 2) := by decide +kernel
theorem dX4_writesNumber_10 : decode cX4_writesNumber 10 = .ok (.idiv, 1) := by decide +kernel
theorem dX4_writesNumber_11 : decode cX4_writesNumber 11 = .ok (.invokevirtual 180, 3) := by decide +kernel
theorem dX4_writesNumber_14 : decode cX4_writesNumber 14 = .ok (.aload_n 0, 1) := by decide +kernel
theorem dX4_writesNumber_15 : decode cX4_writesNumber 15 = .ok (.bipush 48, 2) := by decide +kernel
theorem dX4_writesNumber_17 : decode cX4_writesNumber 17 = .ok (.iload_n 1, 1) := by decide +kernel
theorem dX4_writesNumber_18 : decode cX4_writesNumber 18 = .ok (.bipush 10, 2) := by decide +kernel
theorem dX4_writesNumber_20 : decode cX4_writesNumber 20 = .ok (.irem, 1) := by decide +kernel
theorem dX4_writesNumber_21 : decode cX4_writesNumber 21 = .ok (.iadd, 1) := by decide +kernel
theorem dX4_writesNumber_22 : decode cX4_writesNumber 22 = .ok (.invokevirtual 183, 3) := by decide +kernel
theorem dX4_writesNumber_25 : decode cX4_writesNumber 25 = .ok (.return_, 1) := by decide +kernel
theorem dX4_writeChapter_0 : decode cX4_writeChapter 0 = .ok (.aload_n 0, 1) := by decide +kernel
theorem dX4_writeChapter_1 : decode cX4_writeChapter 1 = .ok (.aload_n 0, 1) := by decide +kernel
theorem dX4_writeChapter_2 : decode cX4_writeChapter 2 = .ok (.iload_n 1, 1) := by decide +kernel
theorem dX4_writeChapter_3 : decode cX4_writeChapter 3 = .ok (.invokevirtual 129, 3) := by decide +kernel
theorem dX4_writeChapter_6 : decode cX4_writeChapter 6 = .ok (.invokevirtual 49, 3) := by decide +kernel
theorem dX4_writeChapter_9 : decode cX4_writeChapter 9 = .ok (.ifCond .ne 5, 3) := by decide +kernel
theorem dX4_writeChapter_12 : decode cX4_writeChapter 12 = .ok (.iconst 0, 1) := by decide +kernel
theorem dX4_writeChapter_13 : decode cX4_writeChapter 13 = .ok (.ireturn, 1) := by decide +kernel
theorem dX4_writeChapter_14 : decode cX4_writeChapter 14 = .ok (.aload_n 0, 1) := by decide +kernel
theorem dX4_writeChapter_15 : decode cX4_writeChapter 15 = .ok (.iconst 0, 1) := by decide +kernel
theorem dX4_writeChapter_16 : decode cX4_writeChapter 16 = .ok (.putfield 177, 3) := by decide +kernel
theorem dX4_writeChapter_19 : decode cX4_writeChapter 19 = .ok (.aload_n 0, 1) := by decide +kernel
theorem dX4_writeChapter_20 : decode cX4_writeChapter 20 = .ok (.aload_n 0, 1) := by decide +kernel
theorem dX4_writeChapter_21 : decode cX4_writeChapter 21 = .ok (.iload_n 1, 1) := by decide +kernel
theorem dX4_writeChapter_22 : decode cX4_writeChapter 22 = .ok (.invokevirtual 123, 3) := by decide +kernel
theorem dX4_writeChapter_25 : decode cX4_writeChapter 25 = .ok (.invokevirtual 180, 3) := by decide +kernel
theorem dX4_writeChapter_28 : decode cX4_writeChapter 28 = .ok (.aload_n 0, 1) := by decide +kernel
theorem dX4_writeChapter_29 : decode cX4_writeChapter 29 = .ok (.bipush 45, 2) := by decide +kernel
theorem dX4_writeChapter_31 : decode cX4_writeChapter 31 = .ok (.invokevirtual 183, 3) := by decide +kernel
theorem dX4_writeChapter_34 : decode cX4_writeChapter 34 = .ok (.aload_n 0, 1) := by decide +kernel
theorem dX4_writeChapter_35 : decode cX4_writeChapter 35 = .ok (.aload_n 0, 1) := by decide +kernel
theorem dX4_writeChapter_36 : decode cX4_writeChapter 36 = .ok (.iload_n 1, 1) := by decide +kernel
theorem dX4_writeChapter_37 : decode cX4_writeChapter 37 = .ok (.invokevirtual 156, 3) := by decide +kernel
theorem dX4_writeChapter_40 : decode cX4_writeChapter 40 = .ok (.invokevirtual 180, 3) := by decide +kernel
theorem dX4_writeChapter_43 : decode cX4_writeChapter 43 = .ok (.aload_n 0, 1) := by decide +kernel
theorem dX4_writeChapter_44 : decode cX4_writeChapter 44 = .ok (.iload_n 1, 1) := by decide +kernel
theorem dX4_writeChapter_45 : decode cX4_writeChapter 45 = .ok (.invokevirtual 123, 3) := by decide +kernel
theorem dX4_writeChapter_48 : decode cX4_writeChapter 48 = .ok (.istore_n 2, 1) := by decide +kernel
theorem dX4_writeChapter_49 : decode cX4_writeChapter 49 = .ok (.iload_n 2, 1) := by decide +kernel
theorem dX4_writeChapter_50 : decode cX4_writeChapter 50 = .ok (.aload_n 0, 1) := by decide +kernel
theorem dX4_writeChapter_51 : decode cX4_writeChapter 51 = .ok (.iload_n 1, 1) := by decide +kernel
theorem dX4_writeChapter_52 : decode cX4_writeChapter 52 = .ok (.invokevirtual 156, 3) := by decide +kernel
theorem dX4_writeChapter_55 : decode cX4_writeChapter 55 = .ok (.if_icmp .gt 69, 3) := by decide +kernel
theorem dX4_writeChapter_58 : decode cX4_writeChapter 58 = .ok (.aload_n 0, 1) := by decide +kernel
theorem dX4_writeChapter_59 : decode cX4_writeChapter 59 = .ok (.iload_n 2, 1) := by decide +kernel
theorem dX4_writeChapter_60 : decode cX4_writeChapter 60 = .ok (.invokevirtual 82, 3) := by decide +kernel
theorem dX4_writeChapter_63 : decode cX4_writeChapter 63 = .ok (.istore_n 3, 1) := by decide +kernel
theorem dX4_writeChapter_64 : decode cX4_writeChapter 64 = .ok (.iload_n 3, 1) := by decide +kernel
theorem dX4_writeChapter_65 : decode cX4_writeChapter 65 = .ok (.ifCond .ge 6, 3) := by decide +kernel
theorem dX4_writeChapter_68 : decode cX4_writeChapter 68 = .ok (.goto 50, 3) := by decide +kernel
theorem dX4_writeChapter_71 : decode cX4_writeChapter 71 = .ok (.aload_n 0, 1) := by decide +kernel
theorem dX4_writeChapter_72 : decode cX4_writeChapter 72 = .ok (.bipush 32, 2) := by decide +kernel
theorem dX4_writeChapter_74 : decode cX4_writeChapter 74 = .ok (.invokevirtual 183, 3) := by decide +kernel
theorem dX4_writeChapter_77 : decode cX4_writeChapter 77 = .ok (.aload_n 0, 1) := by decide +kernel
theorem dX4_writeChapter_78 : decode cX4_writeChapter 78 = .ok (.aload_n 0, 1) := by decide +kernel
theorem dX4_writeChapter_79 : decode cX4_writeChapter 79 = .ok (.iload_n 3, 1) := by decide +kernel
theorem dX4_writeChapter_80 : decode cX4_writeChapter 80 = .ok (.iconst 3, 1) := by decide +kernel
theorem dX4_writeChapter_81 : decode cX4_writeChapter 81 = .ok (.invokevirtual 53, 3) := by decide +kernel
theorem dX4_writeChapter_84 : decode cX4_writeChapter 84 = .ok (.ifCond .le 8, 3) := by decide +kernel
theorem dX4_writeChapter_87 : decode cX4_writeChapter 87 = .ok (.bipush 114, 2) := by decide +kernel
theorem dX4_writeChapter_89 : decode cX4_writeChapter 89 = .ok (.goto 5, 3) := by decide +kernel
theorem dX4_writeChapter_92 : decode cX4_writeChapter 92 = .ok (.bipush 101, 2) := by decide +kernel
theorem dX4_writeChapter_94 : decode cX4_writeChapter 94 = .ok (.invokevirtual 183, 3) := by decide +kernel
theorem dX4_writeChapter_97 : decode cX4_writeChapter 97 = .ok (.aload_n 0, 1) := by decide +kernel
theorem dX4_writeChapter_98 : decode cX4_writeChapter 98 = .ok (.iload_n 2, 1) := by decide +kernel
theorem dX4_writeChapter_99 : decode cX4_writeChapter 99 = .ok (.invokevirtual 180, 3) := by decide +kernel
theorem dX4_writeChapter_102 : decode cX4_writeChapter 102 = .ok (.aload_n 0, 1) := by decide +kernel
theorem dX4_writeChapter_103 : decode cX4_writeChapter 103 = .ok (.bipush 42, 2) := by decide +kernel
theorem dX4_writeChapter_105 : decode cX4_writeChapter 105 = .ok (.invokevirtual 183, 3) := by decide +kernel
theorem dX4_writeChapter_108 : decode cX4_writeChapter 108 = .ok (.aload_n 0, 1) := by decide +kernel
theorem dX4_writeChapter_109 : decode cX4_writeChapter 109 = .ok (.aload_n 0, 1) := by decide +kernel
theorem dX4_writeChapter_110 : decode cX4_writeChapter 110 = .ok (.iload_n 3, 1) := by decide +kernel
theorem dX4_writeChapter_111 : decode cX4_writeChapter 111 = .ok (.iconst 2, 1) := by decide +kernel
theorem dX4_writeChapter_112 : decode cX4_writeChapter 112 = .ok (.invokevirtual 53, 3) := by decide +kernel
theorem dX4_writeChapter_115 : decode cX4_writeChapter 115 = .ok (.invokevirtual 180, 3) := by decide +kernel
theorem dX4_writeChapter_118 : decode cX4_writeChapter 118 = .ok (.iinc 2 1, 3) := by decide +kernel
theorem dX4_writeChapter_121 : decode cX4_writeChapter 121 = .ok (.goto (-72), 3) := by decide +kernel
theorem dX4_writeChapter_124 : decode cX4_writeChapter 124 = .ok (.aload_n 0, 1) := by decide +kernel
theorem dX4_writeChapter_125 : decode cX4_writeChapter 125 = .ok (.getfield 177, 3) := by decide +kernel
theorem dX4_writeChapter_128 : decode cX4_writeChapter 128 = .ok (.ireturn, 1) := by decide +kernel
theorem dX4_writeSeats_0 : decode cX4_writeSeats 0 = .ok (.aload_n 0, 1) := by decide +kernel
theorem dX4_writeSeats_1 : decode cX4_writeSeats 1 = .ok (.iconst 0, 1) := by decide +kernel
theorem dX4_writeSeats_2 : decode cX4_writeSeats 2 = .ok (.putfield 27, 3) := by decide +kernel
theorem dX4_writeSeats_5 : decode cX4_writeSeats 5 = .ok (.aload_n 0, 1) := by decide +kernel
theorem dX4_writeSeats_6 : decode cX4_writeSeats 6 = .ok (.iconst 0, 1) := by decide +kernel
theorem dX4_writeSeats_7 : decode cX4_writeSeats 7 = .ok (.putfield 177, 3) := by decide +kernel
theorem dX4_writeSeats_10 : decode cX4_writeSeats 10 = .ok (.iconst 0, 1) := by decide +kernel
theorem dX4_writeSeats_11 : decode cX4_writeSeats 11 = .ok (.istore_n 1, 1) := by decide +kernel
theorem dX4_writeSeats_12 : decode cX4_writeSeats 12 = .ok (.iload_n 1, 1) := by decide +kernel
theorem dX4_writeSeats_13 : decode cX4_writeSeats 13 = .ok (.iconst 5, 1) := by decide +kernel
theorem dX4_writeSeats_14 : decode cX4_writeSeats 14 = .ok (.if_icmp .ge 50, 3) := by decide +kernel
theorem dX4_writeSeats_17 : decode cX4_writeSeats 17 = .ok (.iload_n 1, 1) := by decide +kernel
theorem dX4_writeSeats_18 : decode cX4_writeSeats 18 = .ok (.ifCond .le 9, 3) := by decide +kernel
theorem dX4_writeSeats_21 : decode cX4_writeSeats 21 = .ok (.aload_n 0, 1) := by decide +kernel
theorem dX4_writeSeats_22 : decode cX4_writeSeats 22 = .ok (.bipush 44, 2) := by decide +kernel
theorem dX4_writeSeats_24 : decode cX4_writeSeats 24 = .ok (.invokevirtual 183, 3) := by decide +kernel
theorem dX4_writeSeats_27 : decode cX4_writeSeats 27 = .ok (.aload_n 0, 1) := by decide +kernel
theorem dX4_writeSeats_28 : decode cX4_writeSeats 28 = .ok (.iload_n 1, 1) := by decide +kernel
theorem dX4_writeSeats_29 : decode cX4_writeSeats 29 = .ok (.invokevirtual 71, 3) := by decide +kernel
theorem dX4_writeSeats_32 : decode cX4_writeSeats 32 = .ok (.ifCond .ge 12, 3) := by decide +kernel
theorem dX4_writeSeats_35 : decode cX4_writeSeats 35 = .ok (.aload_n 0, 1) := by decide +kernel
theorem dX4_writeSeats_36 : decode cX4_writeSeats 36 = .ok (.bipush 45, 2) := by decide +kernel
theorem dX4_writeSeats_38 : decode cX4_writeSeats 38 = .ok (.invokevirtual 183, 3) := by decide +kernel
theorem dX4_writeSeats_41 : decode cX4_writeSeats 41 = .ok (.goto 17, 3) := by decide +kernel
theorem dX4_writeSeats_44 : decode cX4_writeSeats 44 = .ok (.aload_n 0, 1) := by decide +kernel
theorem dX4_writeSeats_45 : decode cX4_writeSeats 45 = .ok (.aload_n 0, 1) := by decide +kernel
theorem dX4_writeSeats_46 : decode cX4_writeSeats 46 = .ok (.aload_n 0, 1) := by decide +kernel
theorem dX4_writeSeats_47 : decode cX4_writeSeats 47 = .ok (.iload_n 1, 1) := by decide +kernel
theorem dX4_writeSeats_48 : decode cX4_writeSeats 48 = .ok (.invokevirtual 71, 3) := by decide +kernel
theorem dX4_writeSeats_51 : decode cX4_writeSeats 51 = .ok (.iconst 1, 1) := by decide +kernel
theorem dX4_writeSeats_52 : decode cX4_writeSeats 52 = .ok (.invokevirtual 53, 3) := by decide +kernel
theorem dX4_writeSeats_55 : decode cX4_writeSeats 55 = .ok (.invokevirtual 180, 3) := by decide +kernel
theorem dX4_writeSeats_58 : decode cX4_writeSeats 58 = .ok (.iinc 1 1, 3) := by decide +kernel
theorem dX4_writeSeats_61 : decode cX4_writeSeats 61 = .ok (.goto (-49), 3) := by decide +kernel
theorem dX4_writeSeats_64 : decode cX4_writeSeats 64 = .ok (.aload_n 0, 1) := by decide +kernel
theorem dX4_writeSeats_65 : decode cX4_writeSeats 65 = .ok (.getfield 177, 3) := by decide +kernel
theorem dX4_writeSeats_68 : decode cX4_writeSeats 68 = .ok (.ireturn, 1) := by decide +kernel
theorem dX4_outputAt_0 : decode cX4_outputAt 0 = .ok (.aload_n 0, 1) := by decide +kernel
theorem dX4_outputAt_1 : decode cX4_outputAt 1 = .ok (.iload_n 1, 1) := by decide +kernel
theorem dX4_outputAt_2 : decode cX4_outputAt 2 = .ok (.iconst 0, 1) := by decide +kernel
theorem dX4_outputAt_3 : decode cX4_outputAt 3 = .ok (.aload_n 0, 1) := by decide +kernel
theorem dX4_outputAt_4 : decode cX4_outputAt 4 = .ok (.getfield 177, 3) := by decide +kernel
theorem dX4_outputAt_7 : decode cX4_outputAt 7 = .ok (.iconst 1, 1) := by decide +kernel
theorem dX4_outputAt_8 : decode cX4_outputAt 8 = .ok (.isub, 1) := by decide +kernel
theorem dX4_outputAt_9 : decode cX4_outputAt 9 = .ok (.invokestatic 57, 3) := by decide +kernel
theorem dX4_outputAt_12 : decode cX4_outputAt 12 = .ok (.invokevirtual 49, 3) := by decide +kernel
theorem dX4_outputAt_15 : decode cX4_outputAt 15 = .ok (.ifCond .eq 12, 3) := by decide +kernel
theorem dX4_outputAt_18 : decode cX4_outputAt 18 = .ok (.aload_n 0, 1) := by decide +kernel
theorem dX4_outputAt_19 : decode cX4_outputAt 19 = .ok (.getfield 13, 3) := by decide +kernel
theorem dX4_outputAt_22 : decode cX4_outputAt 22 = .ok (.iload_n 1, 1) := by decide +kernel
theorem dX4_outputAt_23 : decode cX4_outputAt 23 = .ok (.caload, 1) := by decide +kernel
theorem dX4_outputAt_24 : decode cX4_outputAt 24 = .ok (.goto 4, 3) := by decide +kernel
theorem dX4_outputAt_27 : decode cX4_outputAt 27 = .ok (.iconst 0, 1) := by decide +kernel
theorem dX4_outputAt_28 : decode cX4_outputAt 28 = .ok (.ireturn, 1) := by decide +kernel
theorem dX4_appendInput_0 : decode cX4_appendInput 0 = .ok (.aload_n 0, 1) := by decide +kernel
theorem dX4_appendInput_1 : decode cX4_appendInput 1 = .ok (.iload_n 1, 1) := by decide +kernel
theorem dX4_appendInput_2 : decode cX4_appendInput 2 = .ok (.bipush 32, 2) := by decide +kernel
theorem dX4_appendInput_4 : decode cX4_appendInput 4 = .ok (.bipush 126, 2) := by decide +kernel
theorem dX4_appendInput_6 : decode cX4_appendInput 6 = .ok (.invokestatic 57, 3) := by decide +kernel
theorem dX4_appendInput_9 : decode cX4_appendInput 9 = .ok (.ifCond .ne 7, 3) := by decide +kernel
theorem dX4_appendInput_12 : decode cX4_appendInput 12 = .ok (.iconst 1, 1) := by decide +kernel
theorem dX4_appendInput_13 : decode cX4_appendInput 13 = .ok (.goto 17, 3) := by decide +kernel
theorem dX4_appendInput_16 : decode cX4_appendInput 16 = .ok (.aload_n 0, 1) := by decide +kernel
theorem dX4_appendInput_17 : decode cX4_appendInput 17 = .ok (.getfield 186, 3) := by decide +kernel
theorem dX4_appendInput_20 : decode cX4_appendInput 20 = .ok (.bipush 60, 2) := by decide +kernel
theorem dX4_appendInput_22 : decode cX4_appendInput 22 = .ok (.if_icmp .ne 7, 3) := by decide +kernel
theorem dX4_appendInput_25 : decode cX4_appendInput 25 = .ok (.iconst 2, 1) := by decide +kernel
theorem dX4_appendInput_26 : decode cX4_appendInput 26 = .ok (.goto 4, 3) := by decide +kernel
theorem dX4_appendInput_29 : decode cX4_appendInput 29 = .ok (.iconst 0, 1) := by decide +kernel
theorem dX4_appendInput_30 : decode cX4_appendInput 30 = .ok (.putfield 27, 3) := by decide +kernel
theorem dX4_appendInput_33 : decode cX4_appendInput 33 = .ok (.aload_n 0, 1) := by decide +kernel
theorem dX4_appendInput_34 : decode cX4_appendInput 34 = .ok (.getfield 27, 3) := by decide +kernel
theorem dX4_appendInput_37 : decode cX4_appendInput 37 = .ok (.ifCond .eq 5, 3) := by decide +kernel
theorem dX4_appendInput_40 : decode cX4_appendInput 40 = .ok (.iconst 0, 1) := by decide +kernel
theorem dX4_appendInput_41 : decode cX4_appendInput 41 = .ok (.ireturn, 1) := by decide +kernel
theorem dX4_appendInput_42 : decode cX4_appendInput 42 = .ok (.aload_n 0, 1) := by decide +kernel
theorem dX4_appendInput_43 : decode cX4_appendInput 43 = .ok (.getfield 17, 3) := by decide +kernel
theorem dX4_appendInput_46 : decode cX4_appendInput 46 = .ok (.aload_n 0, 1) := by decide +kernel
theorem dX4_appendInput_47 : decode cX4_appendInput 47 = .ok (.getfield 186, 3) := by decide +kernel
theorem dX4_appendInput_50 : decode cX4_appendInput 50 = .ok (.iload_n 1, 1) := by decide +kernel
theorem dX4_appendInput_51 : decode cX4_appendInput 51 = .ok (.castore, 1) := by decide +kernel
theorem dX4_appendInput_52 : decode cX4_appendInput 52 = .ok (.aload_n 0, 1) := by decide +kernel
theorem dX4_appendInput_53 : decode cX4_appendInput 53 = .ok (.dup, 1) := by decide +kernel
theorem dX4_appendInput_54 : decode cX4_appendInput 54 = .ok (.getfield 186, 3) := by decide +kernel
theorem dX4_appendInput_57 : decode cX4_appendInput 57 = .ok (.iconst 1, 1) := by decide +kernel
theorem dX4_appendInput_58 : decode cX4_appendInput 58 = .ok (.iadd, 1) := by decide +kernel
theorem dX4_appendInput_59 : decode cX4_appendInput 59 = .ok (.putfield 186, 3) := by decide +kernel
theorem dX4_appendInput_62 : decode cX4_appendInput 62 = .ok (.aload_n 0, 1) := by decide +kernel
theorem dX4_appendInput_63 : decode cX4_appendInput 63 = .ok (.getfield 186, 3) := by decide +kernel
theorem dX4_appendInput_66 : decode cX4_appendInput 66 = .ok (.ireturn, 1) := by decide +kernel
theorem dX4_sign_0 : decode cX4_sign 0 = .ok (.aload_n 0, 1) := by decide +kernel
theorem dX4_sign_1 : decode cX4_sign 1 = .ok (.getfield 189, 3) := by decide +kernel
theorem dX4_sign_4 : decode cX4_sign 4 = .ok (.aload_n 0, 1) := by decide +kernel
theorem dX4_sign_5 : decode cX4_sign 5 = .ok (.getfield 186, 3) := by decide +kernel
theorem dX4_sign_8 : decode cX4_sign 8 = .ok (.if_icmp .ge 15, 3) := by decide +kernel
theorem dX4_sign_11 : decode cX4_sign 11 = .ok (.aload_n 0, 1) := by decide +kernel
theorem dX4_sign_12 : decode cX4_sign 12 = .ok (.getfield 17, 3) := by decide +kernel
theorem dX4_sign_15 : decode cX4_sign 15 = .ok (.aload_n 0, 1) := by decide +kernel
theorem dX4_sign_16 : decode cX4_sign 16 = .ok (.getfield 189, 3) := by decide +kernel
theorem dX4_sign_19 : decode cX4_sign 19 = .ok (.caload, 1) := by decide +kernel
theorem dX4_sign_20 : decode cX4_sign 20 = .ok (.goto 4, 3) := by decide +kernel
theorem dX4_sign_23 : decode cX4_sign 23 = .ok (.iconst (-1), 1) := by decide +kernel
theorem dX4_sign_24 : decode cX4_sign 24 = .ok (.ireturn, 1) := by decide +kernel
theorem dX4_needs_0 : decode cX4_needs 0 = .ok (.aload_n 0, 1) := by decide +kernel
theorem dX4_needs_1 : decode cX4_needs 1 = .ok (.getfield 192, 3) := by decide +kernel
theorem dX4_needs_4 : decode cX4_needs 4 = .ok (.ifCond .lt 4, 3) := by decide +kernel
theorem dX4_needs_7 : decode cX4_needs 7 = .ok (.return_, 1) := by decide +kernel
theorem dX4_needs_8 : decode cX4_needs 8 = .ok (.aload_n 0, 1) := by decide +kernel
theorem dX4_needs_9 : decode cX4_needs 9 = .ok (.invokevirtual 195, 3) := by decide +kernel
theorem dX4_needs_12 : decode cX4_needs 12 = .ok (.iload_n 1, 1) := by decide +kernel
theorem dX4_needs_13 : decode cX4_needs 13 = .ok (.if_icmp .eq 12, 3) := by decide +kernel
theorem dX4_needs_16 : decode cX4_needs 16 = .ok (.aload_n 0, 1) := by decide +kernel
theorem dX4_needs_17 : decode cX4_needs 17 = .ok (.aload_n 0, 1) := by decide +kernel
theorem dX4_needs_18 : decode cX4_needs 18 = .ok (.getfield 189, 3) := by decide +kernel
theorem dX4_needs_21 : decode cX4_needs 21 = .ok (.putfield 192, 3) := by decide +kernel
theorem dX4_needs_24 : decode cX4_needs 24 = .ok (.return_, 1) := by decide +kernel
theorem dX4_needs_25 : decode cX4_needs 25 = .ok (.aload_n 0, 1) := by decide +kernel
theorem dX4_needs_26 : decode cX4_needs 26 = .ok (.dup, 1) := by decide +kernel
theorem dX4_needs_27 : decode cX4_needs 27 = .ok (.getfield 189, 3) := by decide +kernel
theorem dX4_needs_30 : decode cX4_needs 30 = .ok (.iconst 1, 1) := by decide +kernel
theorem dX4_needs_31 : decode cX4_needs 31 = .ok (.iadd, 1) := by decide +kernel
theorem dX4_needs_32 : decode cX4_needs 32 = .ok (.putfield 189, 3) := by decide +kernel
theorem dX4_needs_35 : decode cX4_needs 35 = .ok (.return_, 1) := by decide +kernel
theorem dX4_number_0 : decode cX4_number 0 = .ok (.aload_n 0, 1) := by decide +kernel
theorem dX4_number_1 : decode cX4_number 1 = .ok (.getfield 192, 3) := by decide +kernel
theorem dX4_number_4 : decode cX4_number 4 = .ok (.ifCond .lt 5, 3) := by decide +kernel
theorem dX4_number_7 : decode cX4_number 7 = .ok (.iconst 0, 1) := by decide +kernel
theorem dX4_number_8 : decode cX4_number 8 = .ok (.ireturn, 1) := by decide +kernel
theorem dX4_number_9 : decode cX4_number 9 = .ok (.aload_n 0, 1) := by decide +kernel
theorem dX4_number_10 : decode cX4_number 10 = .ok (.invokevirtual 195, 3) := by decide +kernel
theorem dX4_number_13 : decode cX4_number 13 = .ok (.bipush 48, 2) := by decide +kernel
theorem dX4_number_15 : decode cX4_number 15 = .ok (.bipush 57, 2) := by decide +kernel
theorem dX4_number_17 : decode cX4_number 17 = .ok (.invokestatic 57, 3) := by decide +kernel
theorem dX4_number_20 : decode cX4_number 20 = .ok (.ifCond .ne 13, 3) := by decide +kernel
theorem dX4_number_23 : decode cX4_number 23 = .ok (.aload_n 0, 1) := by decide +kernel
theorem dX4_number_24 : decode cX4_number 24 = .ok (.aload_n 0, 1) := by decide +kernel
theorem dX4_number_25 : decode cX4_number 25 = .ok (.getfield 189, 3) := by decide +kernel
theorem dX4_number_28 : decode cX4_number 28 = .ok (.putfield 192, 3) := by decide +kernel
theorem dX4_number_31 : decode cX4_number 31 = .ok (.iconst 0, 1) := by decide +kernel
theorem dX4_number_32 : decode cX4_number 32 = .ok (.ireturn, 1) := by decide +kernel
theorem dX4_number_33 : decode cX4_number 33 = .ok (.iconst 0, 1) := by decide +kernel
theorem dX4_number_34 : decode cX4_number 34 = .ok (.istore_n 2, 1) := by decide +kernel
theorem dX4_number_35 : decode cX4_number 35 = .ok (.iconst 0, 1) := by decide +kernel
theorem dX4_number_36 : decode cX4_number 36 = .ok (.istore_n 3, 1) := by decide +kernel
theorem dX4_number_37 : decode cX4_number 37 = .ok (.iload_n 3, 1) := by decide +kernel
theorem dX4_number_38 : decode cX4_number 38 = .ok (.iload_n 1, 1) := by decide +kernel
theorem dX4_number_39 : decode cX4_number 39 = .ok (.if_icmp .ge 46, 3) := by decide +kernel
theorem dX4_number_42 : decode cX4_number 42 = .ok (.aload_n 0, 1) := by decide +kernel
theorem dX4_number_43 : decode cX4_number 43 = .ok (.invokevirtual 195, 3) := by decide +kernel
theorem dX4_number_46 : decode cX4_number 46 = .ok (.bipush 48, 2) := by decide +kernel
theorem dX4_number_48 : decode cX4_number 48 = .ok (.bipush 57, 2) := by decide +kernel
theorem dX4_number_50 : decode cX4_number 50 = .ok (.invokestatic 57, 3) := by decide +kernel
theorem dX4_number_53 : decode cX4_number 53 = .ok (.ifCond .eq 32, 3) := by decide +kernel
theorem dX4_number_56 : decode cX4_number 56 = .ok (.bipush 10, 2) := by decide +kernel
theorem dX4_number_58 : decode cX4_number 58 = .ok (.iload_n 2, 1) := by decide +kernel
theorem dX4_number_59 : decode cX4_number 59 = .ok (.imul, 1) := by decide +kernel
theorem dX4_number_60 : decode cX4_number 60 = .ok (.aload_n 0, 1) := by decide +kernel
theorem dX4_number_61 : decode cX4_number 61 = .ok (.invokevirtual 195, 3) := by decide +kernel
theorem dX4_number_64 : decode cX4_number 64 = .ok (.iadd, 1) := by decide +kernel
theorem dX4_number_65 : decode cX4_number 65 = .ok (.bipush 48, 2) := by decide +kernel
theorem dX4_number_67 : decode cX4_number 67 = .ok (.isub, 1) := by decide +kernel
theorem dX4_number_68 : decode cX4_number 68 = .ok (.istore_n 2, 1) := by decide +kernel
theorem dX4_number_69 : decode cX4_number 69 = .ok (.aload_n 0, 1) := by decide +kernel
theorem dX4_number_70 : decode cX4_number 70 = .ok (.dup, 1) := by decide +kernel
theorem dX4_number_71 : decode cX4_number 71 = .ok (.getfield 189, 3) := by decide +kernel
theorem dX4_number_74 : decode cX4_number 74 = .ok (.iconst 1, 1) := by decide +kernel
theorem dX4_number_75 : decode cX4_number 75 = .ok (.iadd, 1) := by decide +kernel
theorem dX4_number_76 : decode cX4_number 76 = .ok (.putfield 189, 3) := by decide +kernel
theorem dX4_number_79 : decode cX4_number 79 = .ok (.iinc 3 1, 3) := by decide +kernel
theorem dX4_number_82 : decode cX4_number 82 = .ok (.goto (-45), 3) := by decide +kernel
theorem dX4_number_85 : decode cX4_number 85 = .ok (.iload_n 2, 1) := by decide +kernel
theorem dX4_number_86 : decode cX4_number 86 = .ok (.ireturn, 1) := by decide +kernel
theorem dX4_behind_0 : decode cX4_behind 0 = .ok (.aload_n 0, 1) := by decide +kernel
theorem dX4_behind_1 : decode cX4_behind 1 = .ok (.iload_n 1, 1) := by decide +kernel
theorem dX4_behind_2 : decode cX4_behind 2 = .ok (.invokevirtual 198, 3) := by decide +kernel
theorem dX4_behind_5 : decode cX4_behind 5 = .ok (.aload_n 0, 1) := by decide +kernel
theorem dX4_behind_6 : decode cX4_behind 6 = .ok (.iload_n 2, 1) := by decide +kernel
theorem dX4_behind_7 : decode cX4_behind 7 = .ok (.invokevirtual 201, 3) := by decide +kernel
theorem dX4_behind_10 : decode cX4_behind 10 = .ok (.ireturn, 1) := by decide +kernel
theorem dX4_isLetter_0 : decode cX4_isLetter 0 = .ok (.iload_n 0, 1) := by decide +kernel
theorem dX4_isLetter_1 : decode cX4_isLetter 1 = .ok (.bipush 82, 2) := by decide +kernel
theorem dX4_isLetter_3 : decode cX4_isLetter 3 = .ok (.if_icmp .eq 51, 3) := by decide +kernel
theorem dX4_isLetter_6 : decode cX4_isLetter 6 = .ok (.iload_n 0, 1) := by decide +kernel
theorem dX4_isLetter_7 : decode cX4_isLetter 7 = .ok (.bipush 69, 2) := by decide +kernel
theorem dX4_isLetter_9 : decode cX4_isLetter 9 = .ok (.if_icmp .eq 45, 3) := by decide +kernel
theorem dX4_isLetter_12 : decode cX4_isLetter 12 = .ok (.iload_n 0, 1) := by decide +kernel
theorem dX4_isLetter_13 : decode cX4_isLetter 13 = .ok (.bipush 88, 2) := by decide +kernel
theorem dX4_isLetter_15 : decode cX4_isLetter 15 = .ok (.if_icmp .eq 39, 3) := by decide +kernel
theorem dX4_isLetter_18 : decode cX4_isLetter 18 = .ok (.iload_n 0, 1) := by decide +kernel
theorem dX4_isLetter_19 : decode cX4_isLetter 19 = .ok (.bipush 77, 2) := by decide +kernel
theorem dX4_isLetter_21 : decode cX4_isLetter 21 = .ok (.if_icmp .eq 33, 3) := by decide +kernel
theorem dX4_isLetter_24 : decode cX4_isLetter 24 = .ok (.iload_n 0, 1) := by decide +kernel
theorem dX4_isLetter_25 : decode cX4_isLetter 25 = .ok (.bipush 83, 2) := by decide +kernel
theorem dX4_isLetter_27 : decode cX4_isLetter 27 = .ok (.if_icmp .eq 27, 3) := by decide +kernel
theorem dX4_isLetter_30 : decode cX4_isLetter 30 = .ok (.iload_n 0, 1) := by decide +kernel
theorem dX4_isLetter_31 : decode cX4_isLetter 31 = .ok (.bipush 67, 2) := by decide +kernel
theorem dX4_isLetter_33 : decode cX4_isLetter 33 = .ok (.if_icmp .eq 21, 3) := by decide +kernel
theorem dX4_isLetter_36 : decode cX4_isLetter 36 = .ok (.iload_n 0, 1) := by decide +kernel
theorem dX4_isLetter_37 : decode cX4_isLetter 37 = .ok (.bipush 86, 2) := by decide +kernel
theorem dX4_isLetter_39 : decode cX4_isLetter 39 = .ok (.if_icmp .eq 15, 3) := by decide +kernel
theorem dX4_isLetter_42 : decode cX4_isLetter 42 = .ok (.iload_n 0, 1) := by decide +kernel
theorem dX4_isLetter_43 : decode cX4_isLetter 43 = .ok (.bipush 84, 2) := by decide +kernel
theorem dX4_isLetter_45 : decode cX4_isLetter 45 = .ok (.if_icmp .eq 9, 3) := by decide +kernel
theorem dX4_isLetter_48 : decode cX4_isLetter 48 = .ok (.iload_n 0, 1) := by decide +kernel
theorem dX4_isLetter_49 : decode cX4_isLetter 49 = .ok (.bipush 66, 2) := by decide +kernel
theorem dX4_isLetter_51 : decode cX4_isLetter 51 = .ok (.if_icmp .ne 7, 3) := by decide +kernel
theorem dX4_isLetter_54 : decode cX4_isLetter 54 = .ok (.iconst 1, 1) := by decide +kernel
theorem dX4_isLetter_55 : decode cX4_isLetter 55 = .ok (.goto 4, 3) := by decide +kernel
theorem dX4_isLetter_58 : decode cX4_isLetter 58 = .ok (.iconst 0, 1) := by decide +kernel
theorem dX4_isLetter_59 : decode cX4_isLetter 59 = .ok (.ireturn, 1) := by decide +kernel
theorem dX4_command_0 : decode cX4_command 0 = .ok (.iconst 3, 1) := by decide +kernel
theorem dX4_command_1 : decode cX4_command 1 = .ok (.aload_n 0, 1) := by decide +kernel
theorem dX4_command_2 : decode cX4_command 2 = .ok (.getfield 204, 3) := by decide +kernel
theorem dX4_command_5 : decode cX4_command 5 = .ok (.imul, 1) := by decide +kernel
theorem dX4_command_6 : decode cX4_command 6 = .ok (.istore_n 1, 1) := by decide +kernel
theorem dX4_command_7 : decode cX4_command 7 = .ok (.aload_n 0, 1) := by decide +kernel
theorem dX4_command_8 : decode cX4_command 8 = .ok (.dup, 1) := by decide +kernel
theorem dX4_command_9 : decode cX4_command 9 = .ok (.getfield 204, 3) := by decide +kernel
theorem dX4_command_12 : decode cX4_command 12 = .ok (.iconst 1, 1) := by decide +kernel
theorem dX4_command_13 : decode cX4_command 13 = .ok (.iadd, 1) := by decide +kernel
theorem dX4_command_14 : decode cX4_command 14 = .ok (.putfield 204, 3) := by decide +kernel
theorem dX4_command_17 : decode cX4_command 17 = .ok (.aload_n 0, 1) := by decide +kernel
theorem dX4_command_18 : decode cX4_command 18 = .ok (.invokevirtual 195, 3) := by decide +kernel
theorem dX4_command_21 : decode cX4_command 21 = .ok (.istore_n 2, 1) := by decide +kernel
theorem dX4_command_22 : decode cX4_command 22 = .ok (.iconst 0, 1) := by decide +kernel
theorem dX4_command_23 : decode cX4_command 23 = .ok (.istore_n 3, 1) := by decide +kernel
theorem dX4_command_24 : decode cX4_command 24 = .ok (.iload_n 3, 1) := by decide +kernel
theorem dX4_command_25 : decode cX4_command 25 = .ok (.iconst 3, 1) := by decide +kernel
theorem dX4_command_26 : decode cX4_command 26 = .ok (.if_icmp .ge 18, 3) := by decide +kernel
theorem dX4_command_29 : decode cX4_command 29 = .ok (.aload_n 0, 1) := by decide +kernel
theorem dX4_command_30 : decode cX4_command 30 = .ok (.getfield 24, 3) := by decide +kernel
theorem dX4_command_33 : decode cX4_command 33 = .ok (.iload_n 1, 1) := by decide +kernel
theorem dX4_command_34 : decode cX4_command 34 = .ok (.iload_n 3, 1) := by decide +kernel
theorem dX4_command_35 : decode cX4_command 35 = .ok (.iadd, 1) := by decide +kernel
theorem dX4_command_36 : decode cX4_command 36 = .ok (.iconst 0, 1) := by decide +kernel
theorem dX4_command_37 : decode cX4_command 37 = .ok (.iastore, 1) := by decide +kernel
theorem dX4_command_38 : decode cX4_command 38 = .ok (.iinc 3 1, 3) := by decide +kernel
theorem dX4_command_41 : decode cX4_command 41 = .ok (.goto (-17), 3) := by decide +kernel
theorem dX4_command_44 : decode cX4_command 44 = .ok (.iload_n 2, 1) := by decide +kernel
theorem dX4_command_45 : decode cX4_command 45 = .ok (.invokestatic 207, 3) := by decide +kernel
theorem dX4_command_48 : decode cX4_command 48 = .ok (.ifCond .ne 12, 3) := by decide +kernel
theorem dX4_command_51 : decode cX4_command 51 = .ok (.aload_n 0, 1) := by decide +kernel
theorem dX4_command_52 : decode cX4_command 52 = .ok (.aload_n 0, 1) := by decide +kernel
theorem dX4_command_53 : decode cX4_command 53 = .ok (.getfield 189, 3) := by decide +kernel
theorem dX4_command_56 : decode cX4_command 56 = .ok (.putfield 192, 3) := by decide +kernel
theorem dX4_command_59 : decode cX4_command 59 = .ok (.return_, 1) := by decide +kernel
theorem dX4_command_60 : decode cX4_command 60 = .ok (.aload_n 0, 1) := by decide +kernel
theorem dX4_command_61 : decode cX4_command 61 = .ok (.dup, 1) := by decide +kernel
theorem dX4_command_62 : decode cX4_command 62 = .ok (.getfield 189, 3) := by decide +kernel
theorem dX4_command_65 : decode cX4_command 65 = .ok (.iconst 1, 1) := by decide +kernel
theorem dX4_command_66 : decode cX4_command 66 = .ok (.iadd, 1) := by decide +kernel
theorem dX4_command_67 : decode cX4_command 67 = .ok (.putfield 189, 3) := by decide +kernel
theorem dX4_command_70 : decode cX4_command 70 = .ok (.aload_n 0, 1) := by decide +kernel
theorem dX4_command_71 : decode cX4_command 71 = .ok (.getfield 24, 3) := by decide +kernel
theorem dX4_command_74 : decode cX4_command 74 = .ok (.iload_n 1, 1) := by decide +kernel
theorem dX4_command_75 : decode cX4_command 75 = .ok (.iload_n 2, 1) := by decide +kernel
theorem dX4_command_76 : decode cX4_command 76 = .ok (.iastore, 1) := by decide +kernel
theorem dX4_command_77 : decode cX4_command 77 = .ok (.aload_n 0, 1) := by decide +kernel
theorem dX4_command_78 : decode cX4_command 78 = .ok (.getfield 24, 3) := by decide +kernel
theorem dX4_command_81 : decode cX4_command 81 = .ok (.iload_n 1, 1) := by decide +kernel
theorem dX4_command_82 : decode cX4_command 82 = .ok (.iconst 1, 1) := by decide +kernel
theorem dX4_command_83 : decode cX4_command 83 = .ok (.iadd, 1) := by decide +kernel
theorem dX4_command_84 : decode cX4_command 84 = .ok (.aload_n 0, 1) := by decide +kernel
theorem dX4_command_85 : decode cX4_command 85 = .ok (.iload_n 2, 1) := by decide +kernel
theorem dX4_command_86 : decode cX4_command 86 = .ok (.bipush 86, 2) := by decide +kernel
theorem dX4_command_88 : decode cX4_command 88 = .ok (.if_icmp .ne 7, 3) := by decide +kernel
theorem dX4_command_91 : decode cX4_command 91 = .ok (.iconst 1, 1) := by decide +kernel
theorem dX4_command_92 : decode cX4_command 92 = .ok (.goto 4, 3) := by decide +kernel
theorem dX4_command_95 : decode cX4_command 95 = .ok (.iconst 3, 1) := by decide +kernel
theorem dX4_command_96 : decode cX4_command 96 = .ok (.invokevirtual 201, 3) := by decide +kernel
theorem dX4_command_99 : decode cX4_command 99 = .ok (.iastore, 1) := by decide +kernel
theorem dX4_command_100 : decode cX4_command 100 = .ok (.iload_n 2, 1) := by decide +kernel
theorem dX4_command_101 : decode cX4_command 101 = .ok (.lookupswitch 97 #[(69, 43), (77, 61), (82, 43), (83, 79)], 43) := by decide +kernel
theorem dX4_command_144 : decode cX4_command 144 = .ok (.aload_n 0, 1) := by decide +kernel
theorem dX4_command_145 : decode cX4_command 145 = .ok (.getfield 24, 3) := by decide +kernel
theorem dX4_command_148 : decode cX4_command 148 = .ok (.iload_n 1, 1) := by decide +kernel
theorem dX4_command_149 : decode cX4_command 149 = .ok (.iconst 2, 1) := by decide +kernel
theorem dX4_command_150 : decode cX4_command 150 = .ok (.iadd, 1) := by decide +kernel
theorem dX4_command_151 : decode cX4_command 151 = .ok (.aload_n 0, 1) := by decide +kernel
theorem dX4_command_152 : decode cX4_command 152 = .ok (.bipush 58, 2) := by decide +kernel
theorem dX4_command_154 : decode cX4_command 154 = .ok (.iconst 1, 1) := by decide +kernel
theorem dX4_command_155 : decode cX4_command 155 = .ok (.invokevirtual 210, 3) := by decide +kernel
theorem dX4_command_158 : decode cX4_command 158 = .ok (.iastore, 1) := by decide +kernel
theorem dX4_command_159 : decode cX4_command 159 = .ok (.goto 39, 3) := by decide +kernel
theorem dX4_command_162 : decode cX4_command 162 = .ok (.aload_n 0, 1) := by decide +kernel
theorem dX4_command_163 : decode cX4_command 163 = .ok (.getfield 24, 3) := by decide +kernel
theorem dX4_command_166 : decode cX4_command 166 = .ok (.iload_n 1, 1) := by decide +kernel
theorem dX4_command_167 : decode cX4_command 167 = .ok (.iconst 2, 1) := by decide +kernel
theorem dX4_command_168 : decode cX4_command 168 = .ok (.iadd, 1) := by decide +kernel
theorem dX4_command_169 : decode cX4_command 169 = .ok (.aload_n 0, 1) := by decide +kernel
theorem dX4_command_170 : decode cX4_command 170 = .ok (.bipush 58, 2) := by decide +kernel
theorem dX4_command_172 : decode cX4_command 172 = .ok (.iconst 3, 1) := by decide +kernel
theorem dX4_command_173 : decode cX4_command 173 = .ok (.invokevirtual 210, 3) := by decide +kernel
theorem dX4_command_176 : decode cX4_command 176 = .ok (.iastore, 1) := by decide +kernel
theorem dX4_command_177 : decode cX4_command 177 = .ok (.goto 21, 3) := by decide +kernel
theorem dX4_command_180 : decode cX4_command 180 = .ok (.aload_n 0, 1) := by decide +kernel
theorem dX4_command_181 : decode cX4_command 181 = .ok (.getfield 24, 3) := by decide +kernel
theorem dX4_command_184 : decode cX4_command 184 = .ok (.iload_n 1, 1) := by decide +kernel
theorem dX4_command_185 : decode cX4_command 185 = .ok (.iconst 2, 1) := by decide +kernel
theorem dX4_command_186 : decode cX4_command 186 = .ok (.iadd, 1) := by decide +kernel
theorem dX4_command_187 : decode cX4_command 187 = .ok (.aload_n 0, 1) := by decide +kernel
theorem dX4_command_188 : decode cX4_command 188 = .ok (.bipush 44, 2) := by decide +kernel
theorem dX4_command_190 : decode cX4_command 190 = .ok (.iconst 3, 1) := by decide +kernel
theorem dX4_command_191 : decode cX4_command 191 = .ok (.invokevirtual 210, 3) := by decide +kernel
theorem dX4_command_194 : decode cX4_command 194 = .ok (.iastore, 1) := by decide +kernel
theorem dX4_command_195 : decode cX4_command 195 = .ok (.goto 3, 3) := by decide +kernel
theorem dX4_command_198 : decode cX4_command 198 = .ok (.return_, 1) := by decide +kernel
theorem dX4_parse_0 : decode cX4_parse 0 = .ok (.aload_n 0, 1) := by decide +kernel
theorem dX4_parse_1 : decode cX4_parse 1 = .ok (.iconst 0, 1) := by decide +kernel
theorem dX4_parse_2 : decode cX4_parse 2 = .ok (.putfield 189, 3) := by decide +kernel
theorem dX4_parse_5 : decode cX4_parse 5 = .ok (.aload_n 0, 1) := by decide +kernel
theorem dX4_parse_6 : decode cX4_parse 6 = .ok (.iconst (-1), 1) := by decide +kernel
theorem dX4_parse_7 : decode cX4_parse 7 = .ok (.putfield 192, 3) := by decide +kernel
theorem dX4_parse_10 : decode cX4_parse 10 = .ok (.aload_n 0, 1) := by decide +kernel
theorem dX4_parse_11 : decode cX4_parse 11 = .ok (.iconst 0, 1) := by decide +kernel
theorem dX4_parse_12 : decode cX4_parse 12 = .ok (.putfield 204, 3) := by decide +kernel
theorem dX4_parse_15 : decode cX4_parse 15 = .ok (.aload_n 0, 1) := by decide +kernel
theorem dX4_parse_16 : decode cX4_parse 16 = .ok (.invokevirtual 213, 3) := by decide +kernel
theorem dX4_parse_19 : decode cX4_parse 19 = .ok (.aload_n 0, 1) := by decide +kernel
theorem dX4_parse_20 : decode cX4_parse 20 = .ok (.getfield 192, 3) := by decide +kernel
theorem dX4_parse_23 : decode cX4_parse 23 = .ok (.ifCond .ge 29, 3) := by decide +kernel
theorem dX4_parse_26 : decode cX4_parse 26 = .ok (.aload_n 0, 1) := by decide +kernel
theorem dX4_parse_27 : decode cX4_parse 27 = .ok (.invokevirtual 195, 3) := by decide +kernel
theorem dX4_parse_30 : decode cX4_parse 30 = .ok (.bipush 59, 2) := by decide +kernel
theorem dX4_parse_32 : decode cX4_parse 32 = .ok (.if_icmp .ne 20, 3) := by decide +kernel
theorem dX4_parse_35 : decode cX4_parse 35 = .ok (.aload_n 0, 1) := by decide +kernel
theorem dX4_parse_36 : decode cX4_parse 36 = .ok (.dup, 1) := by decide +kernel
theorem dX4_parse_37 : decode cX4_parse 37 = .ok (.getfield 189, 3) := by decide +kernel
theorem dX4_parse_40 : decode cX4_parse 40 = .ok (.iconst 1, 1) := by decide +kernel
theorem dX4_parse_41 : decode cX4_parse 41 = .ok (.iadd, 1) := by decide +kernel
theorem dX4_parse_42 : decode cX4_parse 42 = .ok (.putfield 189, 3) := by decide +kernel
theorem dX4_parse_45 : decode cX4_parse 45 = .ok (.aload_n 0, 1) := by decide +kernel
theorem dX4_parse_46 : decode cX4_parse 46 = .ok (.invokevirtual 213, 3) := by decide +kernel
theorem dX4_parse_49 : decode cX4_parse 49 = .ok (.goto (-30), 3) := by decide +kernel
theorem dX4_parse_52 : decode cX4_parse 52 = .ok (.aload_n 0, 1) := by decide +kernel
theorem dX4_parse_53 : decode cX4_parse 53 = .ok (.getfield 192, 3) := by decide +kernel
theorem dX4_parse_56 : decode cX4_parse 56 = .ok (.ifCond .ge 22, 3) := by decide +kernel
theorem dX4_parse_59 : decode cX4_parse 59 = .ok (.aload_n 0, 1) := by decide +kernel
theorem dX4_parse_60 : decode cX4_parse 60 = .ok (.getfield 189, 3) := by decide +kernel
theorem dX4_parse_63 : decode cX4_parse 63 = .ok (.aload_n 0, 1) := by decide +kernel
theorem dX4_parse_64 : decode cX4_parse 64 = .ok (.getfield 186, 3) := by decide +kernel
theorem dX4_parse_67 : decode cX4_parse 67 = .ok (.if_icmp .ge 11, 3) := by decide +kernel
theorem dX4_parse_70 : decode cX4_parse 70 = .ok (.aload_n 0, 1) := by decide +kernel
theorem dX4_parse_71 : decode cX4_parse 71 = .ok (.aload_n 0, 1) := by decide +kernel
theorem dX4_parse_72 : decode cX4_parse 72 = .ok (.getfield 189, 3) := by decide +kernel
theorem dX4_parse_75 : decode cX4_parse 75 = .ok (.putfield 192, 3) := by decide +kernel
theorem dX4_parse_78 : decode cX4_parse 78 = .ok (.return_, 1) := by decide +kernel
theorem dX4_does_0 : decode cX4_does 0 = .ok (.aload_n 0, 1) := by decide +kernel
theorem dX4_does_1 : decode cX4_does 1 = .ok (.getfield 24, 3) := by decide +kernel
theorem dX4_does_4 : decode cX4_does 4 = .ok (.iload_n 1, 1) := by decide +kernel
theorem dX4_does_5 : decode cX4_does 5 = .ok (.iconst 1, 1) := by decide +kernel
theorem dX4_does_6 : decode cX4_does 6 = .ok (.iadd, 1) := by decide +kernel
theorem dX4_does_7 : decode cX4_does 7 = .ok (.iaload, 1) := by decide +kernel
theorem dX4_does_8 : decode cX4_does 8 = .ok (.istore_n 2, 1) := by decide +kernel
theorem dX4_does_9 : decode cX4_does 9 = .ok (.aload_n 0, 1) := by decide +kernel
theorem dX4_does_10 : decode cX4_does 10 = .ok (.getfield 24, 3) := by decide +kernel
theorem dX4_does_13 : decode cX4_does 13 = .ok (.iload_n 1, 1) := by decide +kernel
theorem dX4_does_14 : decode cX4_does 14 = .ok (.iconst 2, 1) := by decide +kernel
theorem dX4_does_15 : decode cX4_does 15 = .ok (.iadd, 1) := by decide +kernel
theorem dX4_does_16 : decode cX4_does 16 = .ok (.iaload, 1) := by decide +kernel
theorem dX4_does_17 : decode cX4_does 17 = .ok (.istore_n 3, 1) := by decide +kernel
theorem dX4_does_18 : decode cX4_does 18 = .ok (.aload_n 0, 1) := by decide +kernel
theorem dX4_does_19 : decode cX4_does 19 = .ok (.getfield 24, 3) := by decide +kernel
theorem dX4_does_22 : decode cX4_does 22 = .ok (.iload_n 1, 1) := by decide +kernel
theorem dX4_does_23 : decode cX4_does 23 = .ok (.iaload, 1) := by decide +kernel
theorem dX4_does_24 : decode cX4_does 24 = .ok (.tableswitch 159 67 88 #[140, 159, 112, 159, 159, 159, 159, 159, 159, 159, 126, 159, 159, 159, 159, 104, 133, 152, 159, 146, 159, 120], 104) := by decide +kernel
theorem dX4_does_128 : decode cX4_does 128 = .ok (.aload_n 0, 1) := by decide +kernel
theorem dX4_does_129 : decode cX4_does 129 = .ok (.iload_n 2, 1) := by decide +kernel
theorem dX4_does_130 : decode cX4_does 130 = .ok (.iload_n 3, 1) := by decide +kernel
theorem dX4_does_131 : decode cX4_does 131 = .ok (.iconst 1, 1) := by decide +kernel
theorem dX4_does_132 : decode cX4_does 132 = .ok (.invokevirtual 99, 3) := by decide +kernel
theorem dX4_does_135 : decode cX4_does 135 = .ok (.ireturn, 1) := by decide +kernel
theorem dX4_does_136 : decode cX4_does 136 = .ok (.aload_n 0, 1) := by decide +kernel
theorem dX4_does_137 : decode cX4_does 137 = .ok (.iload_n 2, 1) := by decide +kernel
theorem dX4_does_138 : decode cX4_does 138 = .ok (.iload_n 3, 1) := by decide +kernel
theorem dX4_does_139 : decode cX4_does 139 = .ok (.iconst 0, 1) := by decide +kernel
theorem dX4_does_140 : decode cX4_does 140 = .ok (.invokevirtual 99, 3) := by decide +kernel
theorem dX4_does_143 : decode cX4_does 143 = .ok (.ireturn, 1) := by decide +kernel
theorem dX4_does_144 : decode cX4_does 144 = .ok (.aload_n 0, 1) := by decide +kernel
theorem dX4_does_145 : decode cX4_does 145 = .ok (.iload_n 2, 1) := by decide +kernel
theorem dX4_does_146 : decode cX4_does 146 = .ok (.invokevirtual 114, 3) := by decide +kernel
theorem dX4_does_149 : decode cX4_does 149 = .ok (.ireturn, 1) := by decide +kernel
theorem dX4_does_150 : decode cX4_does 150 = .ok (.aload_n 0, 1) := by decide +kernel
theorem dX4_does_151 : decode cX4_does 151 = .ok (.iload_n 2, 1) := by decide +kernel
theorem dX4_does_152 : decode cX4_does 152 = .ok (.iload_n 3, 1) := by decide +kernel
theorem dX4_does_153 : decode cX4_does 153 = .ok (.invokevirtual 117, 3) := by decide +kernel
theorem dX4_does_156 : decode cX4_does 156 = .ok (.ireturn, 1) := by decide +kernel
theorem dX4_does_157 : decode cX4_does 157 = .ok (.aload_n 0, 1) := by decide +kernel
theorem dX4_does_158 : decode cX4_does 158 = .ok (.iload_n 2, 1) := by decide +kernel
theorem dX4_does_159 : decode cX4_does 159 = .ok (.iload_n 3, 1) := by decide +kernel
theorem dX4_does_160 : decode cX4_does 160 = .ok (.invokevirtual 120, 3) := by decide +kernel
theorem dX4_does_163 : decode cX4_does 163 = .ok (.ireturn, 1) := by decide +kernel
theorem dX4_does_164 : decode cX4_does 164 = .ok (.aload_n 0, 1) := by decide +kernel
theorem dX4_does_165 : decode cX4_does 165 = .ok (.iload_n 2, 1) := by decide +kernel
theorem dX4_does_166 : decode cX4_does 166 = .ok (.invokevirtual 126, 3) := by decide +kernel
theorem dX4_does_169 : decode cX4_does 169 = .ok (.ireturn, 1) := by decide +kernel
theorem dX4_does_170 : decode cX4_does 170 = .ok (.aload_n 0, 1) := by decide +kernel
theorem dX4_does_171 : decode cX4_does 171 = .ok (.iload_n 2, 1) := by decide +kernel
theorem dX4_does_172 : decode cX4_does 172 = .ok (.invokevirtual 135, 3) := by decide +kernel
theorem dX4_does_175 : decode cX4_does 175 = .ok (.ireturn, 1) := by decide +kernel
theorem dX4_does_176 : decode cX4_does 176 = .ok (.aload_n 0, 1) := by decide +kernel
theorem dX4_does_177 : decode cX4_does 177 = .ok (.iload_n 2, 1) := by decide +kernel
theorem dX4_does_178 : decode cX4_does 178 = .ok (.iconst 1, 1) := by decide +kernel
theorem dX4_does_179 : decode cX4_does 179 = .ok (.invokevirtual 142, 3) := by decide +kernel
theorem dX4_does_182 : decode cX4_does 182 = .ok (.ireturn, 1) := by decide +kernel
theorem dX4_does_183 : decode cX4_does 183 = .ok (.aload_n 0, 1) := by decide +kernel
theorem dX4_does_184 : decode cX4_does 184 = .ok (.iload_n 2, 1) := by decide +kernel
theorem dX4_does_185 : decode cX4_does 185 = .ok (.iconst 0, 1) := by decide +kernel
theorem dX4_does_186 : decode cX4_does 186 = .ok (.invokevirtual 142, 3) := by decide +kernel
theorem dX4_does_189 : decode cX4_does 189 = .ok (.ireturn, 1) := by decide +kernel
theorem dX4_execute_0 : decode cX4_execute 0 = .ok (.aload_n 0, 1) := by decide +kernel
theorem dX4_execute_1 : decode cX4_execute 1 = .ok (.invokevirtual 216, 3) := by decide +kernel
theorem dX4_execute_4 : decode cX4_execute 4 = .ok (.aload_n 0, 1) := by decide +kernel
theorem dX4_execute_5 : decode cX4_execute 5 = .ok (.iconst 0, 1) := by decide +kernel
theorem dX4_execute_6 : decode cX4_execute 6 = .ok (.putfield 186, 3) := by decide +kernel
theorem dX4_execute_9 : decode cX4_execute 9 = .ok (.aload_n 0, 1) := by decide +kernel
theorem dX4_execute_10 : decode cX4_execute 10 = .ok (.getfield 192, 3) := by decide +kernel
theorem dX4_execute_13 : decode cX4_execute 13 = .ok (.ifCond .lt 18, 3) := by decide +kernel
theorem dX4_execute_16 : decode cX4_execute 16 = .ok (.aload_n 0, 1) := by decide +kernel
theorem dX4_execute_17 : decode cX4_execute 17 = .ok (.aload_n 0, 1) := by decide +kernel
theorem dX4_execute_18 : decode cX4_execute 18 = .ok (.getfield 192, 3) := by decide +kernel
theorem dX4_execute_21 : decode cX4_execute 21 = .ok (.putfield 20, 3) := by decide +kernel
theorem dX4_execute_24 : decode cX4_execute 24 = .ok (.aload_n 0, 1) := by decide +kernel
theorem dX4_execute_25 : decode cX4_execute 25 = .ok (.iconst 1, 1) := by decide +kernel
theorem dX4_execute_26 : decode cX4_execute 26 = .ok (.putfield 27, 3) := by decide +kernel
theorem dX4_execute_29 : decode cX4_execute 29 = .ok (.iconst 0, 1) := by decide +kernel
theorem dX4_execute_30 : decode cX4_execute 30 = .ok (.ireturn, 1) := by decide +kernel
theorem dX4_execute_31 : decode cX4_execute 31 = .ok (.aload_n 0, 1) := by decide +kernel
theorem dX4_execute_32 : decode cX4_execute 32 = .ok (.invokevirtual 96, 3) := by decide +kernel
theorem dX4_execute_35 : decode cX4_execute 35 = .ok (.iconst 0, 1) := by decide +kernel
theorem dX4_execute_36 : decode cX4_execute 36 = .ok (.istore_n 1, 1) := by decide +kernel
theorem dX4_execute_37 : decode cX4_execute 37 = .ok (.iconst 0, 1) := by decide +kernel
theorem dX4_execute_38 : decode cX4_execute 38 = .ok (.istore_n 2, 1) := by decide +kernel
theorem dX4_execute_39 : decode cX4_execute 39 = .ok (.iload_n 2, 1) := by decide +kernel
theorem dX4_execute_40 : decode cX4_execute 40 = .ok (.aload_n 0, 1) := by decide +kernel
theorem dX4_execute_41 : decode cX4_execute 41 = .ok (.getfield 204, 3) := by decide +kernel
theorem dX4_execute_44 : decode cX4_execute 44 = .ok (.if_icmp .ge 21, 3) := by decide +kernel
theorem dX4_execute_47 : decode cX4_execute 47 = .ok (.iload_n 1, 1) := by decide +kernel
theorem dX4_execute_48 : decode cX4_execute 48 = .ok (.ifCond .ne 17, 3) := by decide +kernel
theorem dX4_execute_51 : decode cX4_execute 51 = .ok (.aload_n 0, 1) := by decide +kernel
theorem dX4_execute_52 : decode cX4_execute 52 = .ok (.iconst 3, 1) := by decide +kernel
theorem dX4_execute_53 : decode cX4_execute 53 = .ok (.iload_n 2, 1) := by decide +kernel
theorem dX4_execute_54 : decode cX4_execute 54 = .ok (.imul, 1) := by decide +kernel
theorem dX4_execute_55 : decode cX4_execute 55 = .ok (.invokevirtual 219, 3) := by decide +kernel
theorem dX4_execute_58 : decode cX4_execute 58 = .ok (.istore_n 1, 1) := by decide +kernel
theorem dX4_execute_59 : decode cX4_execute 59 = .ok (.iinc 2 1, 3) := by decide +kernel
theorem dX4_execute_62 : decode cX4_execute 62 = .ok (.goto (-23), 3) := by decide +kernel
theorem dX4_execute_65 : decode cX4_execute 65 = .ok (.iload_n 1, 1) := by decide +kernel
theorem dX4_execute_66 : decode cX4_execute 66 = .ok (.iconst 3, 1) := by decide +kernel
theorem dX4_execute_67 : decode cX4_execute 67 = .ok (.if_icmp .ne 24, 3) := by decide +kernel
theorem dX4_execute_70 : decode cX4_execute 70 = .ok (.aload_n 0, 1) := by decide +kernel
theorem dX4_execute_71 : decode cX4_execute 71 = .ok (.aload_n 0, 1) := by decide +kernel
theorem dX4_execute_72 : decode cX4_execute 72 = .ok (.getfield 40, 3) := by decide +kernel
theorem dX4_execute_75 : decode cX4_execute 75 = .ok (.putfield 46, 3) := by decide +kernel
theorem dX4_execute_78 : decode cX4_execute 78 = .ok (.aload_n 0, 1) := by decide +kernel
theorem dX4_execute_79 : decode cX4_execute 79 = .ok (.bipush 10, 2) := by decide +kernel
theorem dX4_execute_81 : decode cX4_execute 81 = .ok (.putfield 40, 3) := by decide +kernel
theorem dX4_execute_84 : decode cX4_execute 84 = .ok (.aload_n 0, 1) := by decide +kernel
theorem dX4_execute_85 : decode cX4_execute 85 = .ok (.iload_n 2, 1) := by decide +kernel
theorem dX4_execute_86 : decode cX4_execute 86 = .ok (.iconst 1, 1) := by decide +kernel
theorem dX4_execute_87 : decode cX4_execute 87 = .ok (.isub, 1) := by decide +kernel
theorem dX4_execute_88 : decode cX4_execute 88 = .ok (.putfield 43, 3) := by decide +kernel
theorem dX4_execute_91 : decode cX4_execute 91 = .ok (.aload_n 0, 1) := by decide +kernel
theorem dX4_execute_92 : decode cX4_execute 92 = .ok (.aload_n 0, 1) := by decide +kernel
theorem dX4_execute_93 : decode cX4_execute 93 = .ok (.getfield 204, 3) := by decide +kernel
theorem dX4_execute_96 : decode cX4_execute 96 = .ok (.putfield 37, 3) := by decide +kernel
theorem dX4_execute_99 : decode cX4_execute 99 = .ok (.aload_n 0, 1) := by decide +kernel
theorem dX4_execute_100 : decode cX4_execute 100 = .ok (.iload_n 1, 1) := by decide +kernel
theorem dX4_execute_101 : decode cX4_execute 101 = .ok (.iconst 2, 1) := by decide +kernel
theorem dX4_execute_102 : decode cX4_execute 102 = .ok (.iconst 2, 1) := by decide +kernel
theorem dX4_execute_103 : decode cX4_execute 103 = .ok (.iconst 3, 1) := by decide +kernel
theorem dX4_execute_104 : decode cX4_execute 104 = .ok (.invokevirtual 103, 3) := by decide +kernel
theorem dX4_execute_107 : decode cX4_execute 107 = .ok (.ireturn, 1) := by decide +kernel
theorem dX4_syntaxErrorOffset_0 : decode cX4_syntaxErrorOffset 0 = .ok (.aload_n 0, 1) := by decide +kernel
theorem dX4_syntaxErrorOffset_1 : decode cX4_syntaxErrorOffset 1 = .ok (.aload_n 0, 1) := by decide +kernel
theorem dX4_syntaxErrorOffset_2 : decode cX4_syntaxErrorOffset 2 = .ok (.getfield 20, 3) := by decide +kernel
theorem dX4_syntaxErrorOffset_5 : decode cX4_syntaxErrorOffset 5 = .ok (.iconst (-1), 1) := by decide +kernel
theorem dX4_syntaxErrorOffset_6 : decode cX4_syntaxErrorOffset 6 = .ok (.if_icmp .eq 7, 3) := by decide +kernel
theorem dX4_syntaxErrorOffset_9 : decode cX4_syntaxErrorOffset 9 = .ok (.iconst 1, 1) := by decide +kernel
theorem dX4_syntaxErrorOffset_10 : decode cX4_syntaxErrorOffset 10 = .ok (.goto 4, 3) := by decide +kernel
theorem dX4_syntaxErrorOffset_13 : decode cX4_syntaxErrorOffset 13 = .ok (.iconst 0, 1) := by decide +kernel
theorem dX4_syntaxErrorOffset_14 : decode cX4_syntaxErrorOffset 14 = .ok (.invokevirtual 49, 3) := by decide +kernel
theorem dX4_syntaxErrorOffset_17 : decode cX4_syntaxErrorOffset 17 = .ok (.ifCond .eq 10, 3) := by decide +kernel
theorem dX4_syntaxErrorOffset_20 : decode cX4_syntaxErrorOffset 20 = .ok (.aload_n 0, 1) := by decide +kernel
theorem dX4_syntaxErrorOffset_21 : decode cX4_syntaxErrorOffset 21 = .ok (.getfield 20, 3) := by decide +kernel
theorem dX4_syntaxErrorOffset_24 : decode cX4_syntaxErrorOffset 24 = .ok (.goto 4, 3) := by decide +kernel
theorem dX4_syntaxErrorOffset_27 : decode cX4_syntaxErrorOffset 27 = .ok (.iconst 0, 1) := by decide +kernel
theorem dX4_syntaxErrorOffset_28 : decode cX4_syntaxErrorOffset 28 = .ok (.ireturn, 1) := by decide +kernel
theorem dX4_undo_0 : decode cX4_undo 0 = .ok (.aload_n 0, 1) := by decide +kernel
theorem dX4_undo_1 : decode cX4_undo 1 = .ok (.aload_n 0, 1) := by decide +kernel
theorem dX4_undo_2 : decode cX4_undo 2 = .ok (.getfield 34, 3) := by decide +kernel
theorem dX4_undo_5 : decode cX4_undo 5 = .ok (.ifCond .le 7, 3) := by decide +kernel
theorem dX4_undo_8 : decode cX4_undo 8 = .ok (.iconst 1, 1) := by decide +kernel
theorem dX4_undo_9 : decode cX4_undo 9 = .ok (.goto 4, 3) := by decide +kernel
theorem dX4_undo_12 : decode cX4_undo 12 = .ok (.iconst 0, 1) := by decide +kernel
theorem dX4_undo_13 : decode cX4_undo 13 = .ok (.invokevirtual 49, 3) := by decide +kernel
theorem dX4_undo_16 : decode cX4_undo 16 = .ok (.ifCond .ne 5, 3) := by decide +kernel
theorem dX4_undo_19 : decode cX4_undo 19 = .ok (.iconst 0, 1) := by decide +kernel
theorem dX4_undo_20 : decode cX4_undo 20 = .ok (.ireturn, 1) := by decide +kernel
theorem dX4_undo_21 : decode cX4_undo 21 = .ok (.aload_n 0, 1) := by decide +kernel
theorem dX4_undo_22 : decode cX4_undo 22 = .ok (.aload_n 0, 1) := by decide +kernel
theorem dX4_undo_23 : decode cX4_undo 23 = .ok (.getfield 34, 3) := by decide +kernel
theorem dX4_undo_26 : decode cX4_undo 26 = .ok (.iconst 0, 1) := by decide +kernel
theorem dX4_undo_27 : decode cX4_undo 27 = .ok (.invokevirtual 30, 3) := by decide +kernel
theorem dX4_undo_30 : decode cX4_undo 30 = .ok (.aload_n 0, 1) := by decide +kernel
theorem dX4_undo_31 : decode cX4_undo 31 = .ok (.dup, 1) := by decide +kernel
theorem dX4_undo_32 : decode cX4_undo 32 = .ok (.getfield 34, 3) := by decide +kernel
theorem dX4_undo_35 : decode cX4_undo 35 = .ok (.iconst 1, 1) := by decide +kernel
theorem dX4_undo_36 : decode cX4_undo 36 = .ok (.isub, 1) := by decide +kernel
theorem dX4_undo_37 : decode cX4_undo 37 = .ok (.putfield 34, 3) := by decide +kernel
theorem dX4_undo_40 : decode cX4_undo 40 = .ok (.aload_n 0, 1) := by decide +kernel
theorem dX4_undo_41 : decode cX4_undo 41 = .ok (.getfield 34, 3) := by decide +kernel
theorem dX4_undo_44 : decode cX4_undo 44 = .ok (.ireturn, 1) := by decide +kernel
theorem dX4_undoCount_0 : decode cX4_undoCount 0 = .ok (.aload_n 0, 1) := by decide +kernel
theorem dX4_undoCount_1 : decode cX4_undoCount 1 = .ok (.iconst 0, 1) := by decide +kernel
theorem dX4_undoCount_2 : decode cX4_undoCount 2 = .ok (.putfield 27, 3) := by decide +kernel
theorem dX4_undoCount_5 : decode cX4_undoCount 5 = .ok (.aload_n 0, 1) := by decide +kernel
theorem dX4_undoCount_6 : decode cX4_undoCount 6 = .ok (.getfield 34, 3) := by decide +kernel
theorem dX4_undoCount_9 : decode cX4_undoCount 9 = .ok (.ireturn, 1) := by decide +kernel
theorem dX4_saveSnapshot_0 : decode cX4_saveSnapshot 0 = .ok (.aload_n 0, 1) := by decide +kernel
theorem dX4_saveSnapshot_1 : decode cX4_saveSnapshot 1 = .ok (.iconst 0, 1) := by decide +kernel
theorem dX4_saveSnapshot_2 : decode cX4_saveSnapshot 2 = .ok (.putfield 27, 3) := by decide +kernel
theorem dX4_saveSnapshot_5 : decode cX4_saveSnapshot 5 = .ok (.aload_n 0, 1) := by decide +kernel
theorem dX4_saveSnapshot_6 : decode cX4_saveSnapshot 6 = .ok (.iconst 1, 1) := by decide +kernel
theorem dX4_saveSnapshot_7 : decode cX4_saveSnapshot 7 = .ok (.putfield 222, 3) := by decide +kernel
theorem dX4_saveSnapshot_10 : decode cX4_saveSnapshot 10 = .ok (.aload_n 0, 1) := by decide +kernel
theorem dX4_saveSnapshot_11 : decode cX4_saveSnapshot 11 = .ok (.iconst 0, 1) := by decide +kernel
theorem dX4_saveSnapshot_12 : decode cX4_saveSnapshot 12 = .ok (.bipush 9, 2) := by decide +kernel
theorem dX4_saveSnapshot_14 : decode cX4_saveSnapshot 14 = .ok (.invokevirtual 30, 3) := by decide +kernel
theorem dX4_saveSnapshot_17 : decode cX4_saveSnapshot 17 = .ok (.aload_n 0, 1) := by decide +kernel
theorem dX4_saveSnapshot_18 : decode cX4_saveSnapshot 18 = .ok (.getfield 9, 3) := by decide +kernel
theorem dX4_saveSnapshot_21 : decode cX4_saveSnapshot 21 = .ok (.iconst 0, 1) := by decide +kernel
theorem dX4_saveSnapshot_22 : decode cX4_saveSnapshot 22 = .ok (.iaload, 1) := by decide +kernel
theorem dX4_saveSnapshot_23 : decode cX4_saveSnapshot 23 = .ok (.ireturn, 1) := by decide +kernel
theorem dX4_restoreSnapshot_0 : decode cX4_restoreSnapshot 0 = .ok (.aload_n 0, 1) := by decide +kernel
theorem dX4_restoreSnapshot_1 : decode cX4_restoreSnapshot 1 = .ok (.aload_n 0, 1) := by decide +kernel
theorem dX4_restoreSnapshot_2 : decode cX4_restoreSnapshot 2 = .ok (.getfield 222, 3) := by decide +kernel
theorem dX4_restoreSnapshot_5 : decode cX4_restoreSnapshot 5 = .ok (.invokevirtual 49, 3) := by decide +kernel
theorem dX4_restoreSnapshot_8 : decode cX4_restoreSnapshot 8 = .ok (.ifCond .ne 5, 3) := by decide +kernel
theorem dX4_restoreSnapshot_11 : decode cX4_restoreSnapshot 11 = .ok (.iconst 0, 1) := by decide +kernel
theorem dX4_restoreSnapshot_12 : decode cX4_restoreSnapshot 12 = .ok (.ireturn, 1) := by decide +kernel
theorem dX4_restoreSnapshot_13 : decode cX4_restoreSnapshot 13 = .ok (.aload_n 0, 1) := by decide +kernel
theorem dX4_restoreSnapshot_14 : decode cX4_restoreSnapshot 14 = .ok (.bipush 9, 2) := by decide +kernel
theorem dX4_restoreSnapshot_16 : decode cX4_restoreSnapshot 16 = .ok (.iconst 0, 1) := by decide +kernel
theorem dX4_restoreSnapshot_17 : decode cX4_restoreSnapshot 17 = .ok (.invokevirtual 30, 3) := by decide +kernel
theorem dX4_restoreSnapshot_20 : decode cX4_restoreSnapshot 20 = .ok (.aload_n 0, 1) := by decide +kernel
theorem dX4_restoreSnapshot_21 : decode cX4_restoreSnapshot 21 = .ok (.iconst 0, 1) := by decide +kernel
theorem dX4_restoreSnapshot_22 : decode cX4_restoreSnapshot 22 = .ok (.putfield 34, 3) := by decide +kernel
theorem dX4_restoreSnapshot_25 : decode cX4_restoreSnapshot 25 = .ok (.aload_n 0, 1) := by decide +kernel
theorem dX4_restoreSnapshot_26 : decode cX4_restoreSnapshot 26 = .ok (.getfield 9, 3) := by decide +kernel
theorem dX4_restoreSnapshot_29 : decode cX4_restoreSnapshot 29 = .ok (.iconst 0, 1) := by decide +kernel
theorem dX4_restoreSnapshot_30 : decode cX4_restoreSnapshot 30 = .ok (.iaload, 1) := by decide +kernel
theorem dX4_restoreSnapshot_31 : decode cX4_restoreSnapshot 31 = .ok (.ireturn, 1) := by decide +kernel
theorem dX1_remember_0 : decode cX1_remember 0 = .ok (.aload_n 0, 1) := by decide +kernel
theorem dX1_remember_1 : decode cX1_remember 1 = .ok (.getfield 11, 3) := by decide +kernel
theorem dX1_remember_4 : decode cX1_remember 4 = .ok (.aload_n 0, 1) := by decide +kernel
theorem dX1_remember_5 : decode cX1_remember 5 = .ok (.getfield 21, 3) := by decide +kernel
theorem dX1_remember_8 : decode cX1_remember 8 = .ok (.aaload, 1) := by decide +kernel
theorem dX1_remember_9 : decode cX1_remember 9 = .ok (.aload_n 1, 1) := by decide +kernel
theorem dX1_remember_10 : decode cX1_remember 10 = .ok (.invokevirtual 25, 3) := by decide +kernel
theorem dX1_remember_13 : decode cX1_remember 13 = .ok (.aload_n 0, 1) := by decide +kernel
theorem dX1_remember_14 : decode cX1_remember 14 = .ok (.aload_n 0, 1) := by decide +kernel
theorem dX1_remember_15 : decode cX1_remember 15 = .ok (.getfield 21, 3) := by decide +kernel
theorem dX1_remember_18 : decode cX1_remember 18 = .ok (.iconst 1, 1) := by decide +kernel
theorem dX1_remember_19 : decode cX1_remember 19 = .ok (.iadd, 1) := by decide +kernel
theorem dX1_remember_20 : decode cX1_remember 20 = .ok (.bipush 8, 2) := by decide +kernel
theorem dX1_remember_22 : decode cX1_remember 22 = .ok (.if_icmp .ge 12, 3) := by decide +kernel
theorem dX1_remember_25 : decode cX1_remember 25 = .ok (.aload_n 0, 1) := by decide +kernel
theorem dX1_remember_26 : decode cX1_remember 26 = .ok (.getfield 21, 3) := by decide +kernel
theorem dX1_remember_29 : decode cX1_remember 29 = .ok (.iconst 1, 1) := by decide +kernel
theorem dX1_remember_30 : decode cX1_remember 30 = .ok (.iadd, 1) := by decide +kernel
theorem dX1_remember_31 : decode cX1_remember 31 = .ok (.goto 4, 3) := by decide +kernel
theorem dX1_remember_34 : decode cX1_remember 34 = .ok (.iconst 0, 1) := by decide +kernel
theorem dX1_remember_35 : decode cX1_remember 35 = .ok (.putfield 21, 3) := by decide +kernel
theorem dX1_remember_38 : decode cX1_remember 38 = .ok (.aload_n 0, 1) := by decide +kernel
theorem dX1_remember_39 : decode cX1_remember 39 = .ok (.getfield 17, 3) := by decide +kernel
theorem dX1_remember_42 : decode cX1_remember 42 = .ok (.bipush 8, 2) := by decide +kernel
theorem dX1_remember_44 : decode cX1_remember 44 = .ok (.if_icmp .ge 13, 3) := by decide +kernel
theorem dX1_remember_47 : decode cX1_remember 47 = .ok (.aload_n 0, 1) := by decide +kernel
theorem dX1_remember_48 : decode cX1_remember 48 = .ok (.dup, 1) := by decide +kernel
theorem dX1_remember_49 : decode cX1_remember 49 = .ok (.getfield 17, 3) := by decide +kernel
theorem dX1_remember_52 : decode cX1_remember 52 = .ok (.iconst 1, 1) := by decide +kernel
theorem dX1_remember_53 : decode cX1_remember 53 = .ok (.iadd, 1) := by decide +kernel
theorem dX1_remember_54 : decode cX1_remember 54 = .ok (.putfield 17, 3) := by decide +kernel
theorem dX1_remember_57 : decode cX1_remember 57 = .ok (.return_, 1) := by decide +kernel
theorem dX1_bringBackTo_0 : decode cX1_bringBackTo 0 = .ok (.aload_n 0, 1) := by decide +kernel
theorem dX1_bringBackTo_1 : decode cX1_bringBackTo 1 = .ok (.aload_n 0, 1) := by decide +kernel
theorem dX1_bringBackTo_2 : decode cX1_bringBackTo 2 = .ok (.getfield 21, 3) := by decide +kernel
theorem dX1_bringBackTo_5 : decode cX1_bringBackTo 5 = .ok (.ifCond .le 12, 3) := by decide +kernel
theorem dX1_bringBackTo_8 : decode cX1_bringBackTo 8 = .ok (.aload_n 0, 1) := by decide +kernel
theorem dX1_bringBackTo_9 : decode cX1_bringBackTo 9 = .ok (.getfield 21, 3) := by decide +kernel
theorem dX1_bringBackTo_12 : decode cX1_bringBackTo 12 = .ok (.iconst 1, 1) := by decide +kernel
theorem dX1_bringBackTo_13 : decode cX1_bringBackTo 13 = .ok (.isub, 1) := by decide +kernel
theorem dX1_bringBackTo_14 : decode cX1_bringBackTo 14 = .ok (.goto 5, 3) := by decide +kernel
theorem dX1_bringBackTo_17 : decode cX1_bringBackTo 17 = .ok (.bipush 7, 2) := by decide +kernel
theorem dX1_bringBackTo_19 : decode cX1_bringBackTo 19 = .ok (.putfield 21, 3) := by decide +kernel
theorem dX1_bringBackTo_22 : decode cX1_bringBackTo 22 = .ok (.aload_n 0, 1) := by decide +kernel
theorem dX1_bringBackTo_23 : decode cX1_bringBackTo 23 = .ok (.dup, 1) := by decide +kernel
theorem dX1_bringBackTo_24 : decode cX1_bringBackTo 24 = .ok (.getfield 17, 3) := by decide +kernel
theorem dX1_bringBackTo_27 : decode cX1_bringBackTo 27 = .ok (.iconst 1, 1) := by decide +kernel
theorem dX1_bringBackTo_28 : decode cX1_bringBackTo 28 = .ok (.isub, 1) := by decide +kernel
theorem dX1_bringBackTo_29 : decode cX1_bringBackTo 29 = .ok (.putfield 17, 3) := by decide +kernel
theorem dX1_bringBackTo_32 : decode cX1_bringBackTo 32 = .ok (.aload_n 1, 1) := by decide +kernel
theorem dX1_bringBackTo_33 : decode cX1_bringBackTo 33 = .ok (.aload_n 0, 1) := by decide +kernel
theorem dX1_bringBackTo_34 : decode cX1_bringBackTo 34 = .ok (.getfield 11, 3) := by decide +kernel
theorem dX1_bringBackTo_37 : decode cX1_bringBackTo 37 = .ok (.aload_n 0, 1) := by decide +kernel
theorem dX1_bringBackTo_38 : decode cX1_bringBackTo 38 = .ok (.getfield 21, 3) := by decide +kernel
theorem dX1_bringBackTo_41 : decode cX1_bringBackTo 41 = .ok (.aaload, 1) := by decide +kernel
theorem dX1_bringBackTo_42 : decode cX1_bringBackTo 42 = .ok (.invokevirtual 25, 3) := by decide +kernel
theorem dX1_bringBackTo_45 : decode cX1_bringBackTo 45 = .ok (.return_, 1) := by decide +kernel
theorem dX1_forget_0 : decode cX1_forget 0 = .ok (.aload_n 0, 1) := by decide +kernel
theorem dX1_forget_1 : decode cX1_forget 1 = .ok (.iconst 0, 1) := by decide +kernel
theorem dX1_forget_2 : decode cX1_forget 2 = .ok (.putfield 17, 3) := by decide +kernel
theorem dX1_forget_5 : decode cX1_forget 5 = .ok (.return_, 1) := by decide +kernel
theorem dX3_requirePage_0 : decode cX3_requirePage 0 = .ok (.aload_n 0, 1) := by decide +kernel
theorem dX3_requirePage_1 : decode cX3_requirePage 1 = .ok (.getfield 10, 3) := by decide +kernel
theorem dX3_requirePage_4 : decode cX3_requirePage 4 = .ok (.iload_n 1, 1) := by decide +kernel
theorem dX3_requirePage_5 : decode cX3_requirePage 5 = .ok (.invokevirtual 330, 3) := by decide +kernel
theorem dX3_requirePage_8 : decode cX3_requirePage 8 = .ok (.ifCond .ne 14, 3) := by decide +kernel
theorem dX3_requirePage_11 : decode cX3_requirePage 11 = .ok (.new 106, 3) := by decide +kernel
theorem dX3_requirePage_14 : decode cX3_requirePage 14 = .ok (.dup, 1) := by decide +kernel
theorem dX3_requirePage_15 : decode cX3_requirePage 15 = .ok (.ldc_w 333, 3) := by decide +kernel
theorem dX3_requirePage_18 : decode cX3_requirePage 18 = .ok (.invokespecial 110, 3) := by decide +kernel
theorem dX3_requirePage_21 : decode cX3_requirePage 21 = .ok (.athrow, 1) := by decide +kernel
theorem dX3_requirePage_22 : decode cX3_requirePage 22 = .ok (.return_, 1) := by decide +kernel
theorem dX3_requireWeight_0 : decode cX3_requireWeight 0 = .ok (.aload_n 0, 1) := by decide +kernel
theorem dX3_requireWeight_1 : decode cX3_requireWeight 1 = .ok (.getfield 10, 3) := by decide +kernel
theorem dX3_requireWeight_4 : decode cX3_requireWeight 4 = .ok (.iload_n 1, 1) := by decide +kernel
theorem dX3_requireWeight_5 : decode cX3_requireWeight 5 = .ok (.invokevirtual 335, 3) := by decide +kernel
theorem dX3_requireWeight_8 : decode cX3_requireWeight 8 = .ok (.ifCond .ne 14, 3) := by decide +kernel
theorem dX3_requireWeight_11 : decode cX3_requireWeight 11 = .ok (.new 256, 3) := by decide +kernel
theorem dX3_requireWeight_14 : decode cX3_requireWeight 14 = .ok (.dup, 1) := by decide +kernel
theorem dX3_requireWeight_15 : decode cX3_requireWeight 15 = .ok (.ldc_w 338, 3) := by decide +kernel
theorem dX3_requireWeight_18 : decode cX3_requireWeight 18 = .ok (.invokespecial 260, 3) := by decide +kernel
theorem dX3_requireWeight_21 : decode cX3_requireWeight 21 = .ok (.athrow, 1) := by decide +kernel
theorem dX3_requireWeight_22 : decode cX3_requireWeight 22 = .ok (.return_, 1) := by decide +kernel
theorem dX3_noteRejection_0 : decode cX3_noteRejection 0 = .ok (.aload_n 0, 1) := by decide +kernel
theorem dX3_noteRejection_1 : decode cX3_noteRejection 1 = .ok (.iload_n 1, 1) := by decide +kernel
theorem dX3_noteRejection_2 : decode cX3_noteRejection 2 = .ok (.putfield 51, 3) := by decide +kernel
theorem dX3_noteRejection_5 : decode cX3_noteRejection 5 = .ok (.aload_n 0, 1) := by decide +kernel
theorem dX3_noteRejection_6 : decode cX3_noteRejection 6 = .ok (.iload_n 2, 1) := by decide +kernel
theorem dX3_noteRejection_7 : decode cX3_noteRejection 7 = .ok (.putfield 54, 3) := by decide +kernel
theorem dX3_noteRejection_10 : decode cX3_noteRejection 10 = .ok (.aload_n 0, 1) := by decide +kernel
theorem dX3_noteRejection_11 : decode cX3_noteRejection 11 = .ok (.iload_n 3, 1) := by decide +kernel
theorem dX3_noteRejection_12 : decode cX3_noteRejection 12 = .ok (.putfield 57, 3) := by decide +kernel
theorem dX3_noteRejection_15 : decode cX3_noteRejection 15 = .ok (.return_, 1) := by decide +kernel
theorem dX3_changeUnlessRejected_0 : decode cX3_changeUnlessRejected 0 = .ok (.aload_n 0, 1) := by decide +kernel
theorem dX3_changeUnlessRejected_1 : decode cX3_changeUnlessRejected 1 = .ok (.getfield 10, 3) := by decide +kernel
theorem dX3_changeUnlessRejected_4 : decode cX3_changeUnlessRejected 4 = .ok (.iload_n 1, 1) := by decide +kernel
theorem dX3_changeUnlessRejected_5 : decode cX3_changeUnlessRejected 5 = .ok (.iload_n 2, 1) := by decide +kernel
theorem dX3_changeUnlessRejected_6 : decode cX3_changeUnlessRejected 6 = .ok (.iload_n 3, 1) := by decide +kernel
theorem dX3_changeUnlessRejected_7 : decode cX3_changeUnlessRejected 7 = .ok (.invokevirtual 298, 3) := by decide +kernel
theorem dX3_changeUnlessRejected_10 : decode cX3_changeUnlessRejected 10 = .ok (.istore 4, 2) := by decide +kernel
theorem dX3_changeUnlessRejected_12 : decode cX3_changeUnlessRejected 12 = .ok (.iload 4, 2) := by decide +kernel
theorem dX3_changeUnlessRejected_14 : decode cX3_changeUnlessRejected 14 = .ok (.ifCond .eq 33, 3) := by decide +kernel
theorem dX3_changeUnlessRejected_17 : decode cX3_changeUnlessRejected 17 = .ok (.aload_n 0, 1) := by decide +kernel
theorem dX3_changeUnlessRejected_18 : decode cX3_changeUnlessRejected 18 = .ok (.iload 4, 2) := by decide +kernel
theorem dX3_changeUnlessRejected_20 : decode cX3_changeUnlessRejected 20 = .ok (.aload_n 0, 1) := by decide +kernel
theorem dX3_changeUnlessRejected_21 : decode cX3_changeUnlessRejected 21 = .ok (.getfield 10, 3) := by decide +kernel
theorem dX3_changeUnlessRejected_24 : decode cX3_changeUnlessRejected 24 = .ok (.iload 4, 2) := by decide +kernel
theorem dX3_changeUnlessRejected_26 : decode cX3_changeUnlessRejected 26 = .ok (.iload_n 1, 1) := by decide +kernel
theorem dX3_changeUnlessRejected_27 : decode cX3_changeUnlessRejected 27 = .ok (.iload_n 2, 1) := by decide +kernel
theorem dX3_changeUnlessRejected_28 : decode cX3_changeUnlessRejected 28 = .ok (.iload_n 3, 1) := by decide +kernel
theorem dX3_changeUnlessRejected_29 : decode cX3_changeUnlessRejected 29 = .ok (.invokevirtual 362, 3) := by decide +kernel
theorem dX3_changeUnlessRejected_32 : decode cX3_changeUnlessRejected 32 = .ok (.iconst 0, 1) := by decide +kernel
theorem dX3_changeUnlessRejected_33 : decode cX3_changeUnlessRejected 33 = .ok (.invokevirtual 301, 3) := by decide +kernel
theorem dX3_changeUnlessRejected_36 : decode cX3_changeUnlessRejected 36 = .ok (.new 305, 3) := by decide +kernel
theorem dX3_changeUnlessRejected_39 : decode cX3_changeUnlessRejected 39 = .ok (.dup, 1) := by decide +kernel
theorem dX3_changeUnlessRejected_40 : decode cX3_changeUnlessRejected 40 = .ok (.ldc_w 366, 3) := by decide +kernel
theorem dX3_changeUnlessRejected_43 : decode cX3_changeUnlessRejected 43 = .ok (.invokespecial 309, 3) := by decide +kernel
theorem dX3_changeUnlessRejected_46 : decode cX3_changeUnlessRejected 46 = .ok (.athrow, 1) := by decide +kernel
theorem dX3_changeUnlessRejected_47 : decode cX3_changeUnlessRejected 47 = .ok (.aload_n 0, 1) := by decide +kernel
theorem dX3_changeUnlessRejected_48 : decode cX3_changeUnlessRejected 48 = .ok (.getfield 25, 3) := by decide +kernel
theorem dX3_changeUnlessRejected_51 : decode cX3_changeUnlessRejected 51 = .ok (.aload_n 0, 1) := by decide +kernel
theorem dX3_changeUnlessRejected_52 : decode cX3_changeUnlessRejected 52 = .ok (.getfield 10, 3) := by decide +kernel
theorem dX3_changeUnlessRejected_55 : decode cX3_changeUnlessRejected 55 = .ok (.invokevirtual 75, 3) := by decide +kernel
theorem dX3_changeUnlessRejected_58 : decode cX3_changeUnlessRejected 58 = .ok (.aload_n 0, 1) := by decide +kernel
theorem dX3_changeUnlessRejected_59 : decode cX3_changeUnlessRejected 59 = .ok (.getfield 10, 3) := by decide +kernel
theorem dX3_changeUnlessRejected_62 : decode cX3_changeUnlessRejected 62 = .ok (.iload_n 1, 1) := by decide +kernel
theorem dX3_changeUnlessRejected_63 : decode cX3_changeUnlessRejected 63 = .ok (.iload_n 2, 1) := by decide +kernel
theorem dX3_changeUnlessRejected_64 : decode cX3_changeUnlessRejected 64 = .ok (.iload_n 3, 1) := by decide +kernel
theorem dX3_changeUnlessRejected_65 : decode cX3_changeUnlessRejected 65 = .ok (.invokevirtual 79, 3) := by decide +kernel
theorem dX3_changeUnlessRejected_68 : decode cX3_changeUnlessRejected 68 = .ok (.ireturn, 1) := by decide +kernel
theorem dX3_addRibbon_0 : decode cX3_addRibbon 0 = .ok (.aload_n 0, 1) := by decide +kernel
theorem dX3_addRibbon_1 : decode cX3_addRibbon 1 = .ok (.iload_n 1, 1) := by decide +kernel
theorem dX3_addRibbon_2 : decode cX3_addRibbon 2 = .ok (.invokevirtual 60, 3) := by decide +kernel
theorem dX3_addRibbon_5 : decode cX3_addRibbon 5 = .ok (.aload_n 0, 1) := by decide +kernel
theorem dX3_addRibbon_6 : decode cX3_addRibbon 6 = .ok (.iload_n 2, 1) := by decide +kernel
theorem dX3_addRibbon_7 : decode cX3_addRibbon 7 = .ok (.invokevirtual 64, 3) := by decide +kernel
theorem dX3_addRibbon_10 : decode cX3_addRibbon 10 = .ok (.aload_n 0, 1) := by decide +kernel
theorem dX3_addRibbon_11 : decode cX3_addRibbon 11 = .ok (.bipush 82, 2) := by decide +kernel
theorem dX3_addRibbon_13 : decode cX3_addRibbon 13 = .ok (.iload_n 1, 1) := by decide +kernel
theorem dX3_addRibbon_14 : decode cX3_addRibbon 14 = .ok (.iload_n 2, 1) := by decide +kernel
theorem dX3_addRibbon_15 : decode cX3_addRibbon 15 = .ok (.invokevirtual 67, 3) := by decide +kernel
theorem dX3_addRibbon_18 : decode cX3_addRibbon 18 = .ok (.ireturn, 1) := by decide +kernel
theorem dX3_addDogEar_0 : decode cX3_addDogEar 0 = .ok (.aload_n 0, 1) := by decide +kernel
theorem dX3_addDogEar_1 : decode cX3_addDogEar 1 = .ok (.iload_n 1, 1) := by decide +kernel
theorem dX3_addDogEar_2 : decode cX3_addDogEar 2 = .ok (.invokevirtual 60, 3) := by decide +kernel
theorem dX3_addDogEar_5 : decode cX3_addDogEar 5 = .ok (.aload_n 0, 1) := by decide +kernel
theorem dX3_addDogEar_6 : decode cX3_addDogEar 6 = .ok (.iload_n 2, 1) := by decide +kernel
theorem dX3_addDogEar_7 : decode cX3_addDogEar 7 = .ok (.invokevirtual 64, 3) := by decide +kernel
theorem dX3_addDogEar_10 : decode cX3_addDogEar 10 = .ok (.aload_n 0, 1) := by decide +kernel
theorem dX3_addDogEar_11 : decode cX3_addDogEar 11 = .ok (.bipush 69, 2) := by decide +kernel
theorem dX3_addDogEar_13 : decode cX3_addDogEar 13 = .ok (.iload_n 1, 1) := by decide +kernel
theorem dX3_addDogEar_14 : decode cX3_addDogEar 14 = .ok (.iload_n 2, 1) := by decide +kernel
theorem dX3_addDogEar_15 : decode cX3_addDogEar 15 = .ok (.invokevirtual 67, 3) := by decide +kernel
theorem dX3_addDogEar_18 : decode cX3_addDogEar 18 = .ok (.ireturn, 1) := by decide +kernel
theorem dX3_requireMark_0 : decode cX3_requireMark 0 = .ok (.aload_n 0, 1) := by decide +kernel
theorem dX3_requireMark_1 : decode cX3_requireMark 1 = .ok (.getfield 10, 3) := by decide +kernel
theorem dX3_requireMark_4 : decode cX3_requireMark 4 = .ok (.iload_n 1, 1) := by decide +kernel
theorem dX3_requireMark_5 : decode cX3_requireMark 5 = .ok (.invokevirtual 350, 3) := by decide +kernel
theorem dX3_requireMark_8 : decode cX3_requireMark 8 = .ok (.istore_n 2, 1) := by decide +kernel
theorem dX3_requireMark_9 : decode cX3_requireMark 9 = .ok (.iload_n 2, 1) := by decide +kernel
theorem dX3_requireMark_10 : decode cX3_requireMark 10 = .ok (.iconst (-1), 1) := by decide +kernel
theorem dX3_requireMark_11 : decode cX3_requireMark 11 = .ok (.if_icmp .ne 14, 3) := by decide +kernel
theorem dX3_requireMark_14 : decode cX3_requireMark 14 = .ok (.new 106, 3) := by decide +kernel
theorem dX3_requireMark_17 : decode cX3_requireMark 17 = .ok (.dup, 1) := by decide +kernel
theorem dX3_requireMark_18 : decode cX3_requireMark 18 = .ok (.ldc_w 353, 3) := by decide +kernel
theorem dX3_requireMark_21 : decode cX3_requireMark 21 = .ok (.invokespecial 110, 3) := by decide +kernel
theorem dX3_requireMark_24 : decode cX3_requireMark 24 = .ok (.athrow, 1) := by decide +kernel
theorem dX3_requireMark_25 : decode cX3_requireMark 25 = .ok (.iload_n 2, 1) := by decide +kernel
theorem dX3_requireMark_26 : decode cX3_requireMark 26 = .ok (.ireturn, 1) := by decide +kernel
theorem dX3_removeMark_0 : decode cX3_removeMark 0 = .ok (.aload_n 0, 1) := by decide +kernel
theorem dX3_removeMark_1 : decode cX3_removeMark 1 = .ok (.iload_n 1, 1) := by decide +kernel
theorem dX3_removeMark_2 : decode cX3_removeMark 2 = .ok (.invokevirtual 71, 3) := by decide +kernel
theorem dX3_removeMark_5 : decode cX3_removeMark 5 = .ok (.pop, 1) := by decide +kernel
theorem dX3_removeMark_6 : decode cX3_removeMark 6 = .ok (.aload_n 0, 1) := by decide +kernel
theorem dX3_removeMark_7 : decode cX3_removeMark 7 = .ok (.getfield 25, 3) := by decide +kernel
theorem dX3_removeMark_10 : decode cX3_removeMark 10 = .ok (.aload_n 0, 1) := by decide +kernel
theorem dX3_removeMark_11 : decode cX3_removeMark 11 = .ok (.getfield 10, 3) := by decide +kernel
theorem dX3_removeMark_14 : decode cX3_removeMark 14 = .ok (.invokevirtual 75, 3) := by decide +kernel
theorem dX3_removeMark_17 : decode cX3_removeMark 17 = .ok (.aload_n 0, 1) := by decide +kernel
theorem dX3_removeMark_18 : decode cX3_removeMark 18 = .ok (.getfield 10, 3) := by decide +kernel
theorem dX3_removeMark_21 : decode cX3_removeMark 21 = .ok (.bipush 88, 2) := by decide +kernel
theorem dX3_removeMark_23 : decode cX3_removeMark 23 = .ok (.iload_n 1, 1) := by decide +kernel
theorem dX3_removeMark_24 : decode cX3_removeMark 24 = .ok (.iconst 0, 1) := by decide +kernel
theorem dX3_removeMark_25 : decode cX3_removeMark 25 = .ok (.invokevirtual 79, 3) := by decide +kernel
theorem dX3_removeMark_28 : decode cX3_removeMark 28 = .ok (.ireturn, 1) := by decide +kernel
theorem dX3_moveRibbon_0 : decode cX3_moveRibbon 0 = .ok (.aload_n 0, 1) := by decide +kernel
theorem dX3_moveRibbon_1 : decode cX3_moveRibbon 1 = .ok (.iload_n 1, 1) := by decide +kernel
theorem dX3_moveRibbon_2 : decode cX3_moveRibbon 2 = .ok (.invokevirtual 71, 3) := by decide +kernel
theorem dX3_moveRibbon_5 : decode cX3_moveRibbon 5 = .ok (.pop, 1) := by decide +kernel
theorem dX3_moveRibbon_6 : decode cX3_moveRibbon 6 = .ok (.aload_n 0, 1) := by decide +kernel
theorem dX3_moveRibbon_7 : decode cX3_moveRibbon 7 = .ok (.iload_n 2, 1) := by decide +kernel
theorem dX3_moveRibbon_8 : decode cX3_moveRibbon 8 = .ok (.invokevirtual 60, 3) := by decide +kernel
theorem dX3_moveRibbon_11 : decode cX3_moveRibbon 11 = .ok (.aload_n 0, 1) := by decide +kernel
theorem dX3_moveRibbon_12 : decode cX3_moveRibbon 12 = .ok (.bipush 77, 2) := by decide +kernel
theorem dX3_moveRibbon_14 : decode cX3_moveRibbon 14 = .ok (.iload_n 1, 1) := by decide +kernel
theorem dX3_moveRibbon_15 : decode cX3_moveRibbon 15 = .ok (.iload_n 2, 1) := by decide +kernel
theorem dX3_moveRibbon_16 : decode cX3_moveRibbon 16 = .ok (.invokevirtual 67, 3) := by decide +kernel
theorem dX3_moveRibbon_19 : decode cX3_moveRibbon 19 = .ok (.ireturn, 1) := by decide +kernel
theorem dX3_swapSeats_0 : decode cX3_swapSeats 0 = .ok (.aload_n 0, 1) := by decide +kernel
theorem dX3_swapSeats_1 : decode cX3_swapSeats 1 = .ok (.iload_n 1, 1) := by decide +kernel
theorem dX3_swapSeats_2 : decode cX3_swapSeats 2 = .ok (.invokevirtual 71, 3) := by decide +kernel
theorem dX3_swapSeats_5 : decode cX3_swapSeats 5 = .ok (.pop, 1) := by decide +kernel
theorem dX3_swapSeats_6 : decode cX3_swapSeats 6 = .ok (.aload_n 0, 1) := by decide +kernel
theorem dX3_swapSeats_7 : decode cX3_swapSeats 7 = .ok (.iload_n 2, 1) := by decide +kernel
theorem dX3_swapSeats_8 : decode cX3_swapSeats 8 = .ok (.invokevirtual 71, 3) := by decide +kernel
theorem dX3_swapSeats_11 : decode cX3_swapSeats 11 = .ok (.pop, 1) := by decide +kernel
theorem dX3_swapSeats_12 : decode cX3_swapSeats 12 = .ok (.aload_n 0, 1) := by decide +kernel
theorem dX3_swapSeats_13 : decode cX3_swapSeats 13 = .ok (.bipush 83, 2) := by decide +kernel
theorem dX3_swapSeats_15 : decode cX3_swapSeats 15 = .ok (.iload_n 1, 1) := by decide +kernel
theorem dX3_swapSeats_16 : decode cX3_swapSeats 16 = .ok (.iload_n 2, 1) := by decide +kernel
theorem dX3_swapSeats_17 : decode cX3_swapSeats 17 = .ok (.invokevirtual 67, 3) := by decide +kernel
theorem dX3_swapSeats_20 : decode cX3_swapSeats 20 = .ok (.ireturn, 1) := by decide +kernel
theorem dX3_isRibbon_0 : decode cX3_isRibbon 0 = .ok (.aload_n 0, 1) := by decide +kernel
theorem dX3_isRibbon_1 : decode cX3_isRibbon 1 = .ok (.getfield 10, 3) := by decide +kernel
theorem dX3_isRibbon_4 : decode cX3_isRibbon 4 = .ok (.aload_n 0, 1) := by decide +kernel
theorem dX3_isRibbon_5 : decode cX3_isRibbon 5 = .ok (.iload_n 1, 1) := by decide +kernel
theorem dX3_isRibbon_6 : decode cX3_isRibbon 6 = .ok (.invokevirtual 71, 3) := by decide +kernel
theorem dX3_isRibbon_9 : decode cX3_isRibbon 9 = .ok (.invokevirtual 82, 3) := by decide +kernel
theorem dX3_isRibbon_12 : decode cX3_isRibbon 12 = .ok (.ireturn, 1) := by decide +kernel
theorem dX3_pageOf_0 : decode cX3_pageOf 0 = .ok (.aload_n 0, 1) := by decide +kernel
theorem dX3_pageOf_1 : decode cX3_pageOf 1 = .ok (.getfield 10, 3) := by decide +kernel
theorem dX3_pageOf_4 : decode cX3_pageOf 4 = .ok (.getfield 86, 3) := by decide +kernel
theorem dX3_pageOf_7 : decode cX3_pageOf 7 = .ok (.aload_n 0, 1) := by decide +kernel
theorem dX3_pageOf_8 : decode cX3_pageOf 8 = .ok (.iload_n 1, 1) := by decide +kernel
theorem dX3_pageOf_9 : decode cX3_pageOf 9 = .ok (.invokevirtual 71, 3) := by decide +kernel
theorem dX3_pageOf_12 : decode cX3_pageOf 12 = .ok (.iaload, 1) := by decide +kernel
theorem dX3_pageOf_13 : decode cX3_pageOf 13 = .ok (.ireturn, 1) := by decide +kernel
theorem dX3_weightOf_0 : decode cX3_weightOf 0 = .ok (.aload_n 0, 1) := by decide +kernel
theorem dX3_weightOf_1 : decode cX3_weightOf 1 = .ok (.getfield 10, 3) := by decide +kernel
theorem dX3_weightOf_4 : decode cX3_weightOf 4 = .ok (.getfield 90, 3) := by decide +kernel
theorem dX3_weightOf_7 : decode cX3_weightOf 7 = .ok (.aload_n 0, 1) := by decide +kernel
theorem dX3_weightOf_8 : decode cX3_weightOf 8 = .ok (.iload_n 1, 1) := by decide +kernel
theorem dX3_weightOf_9 : decode cX3_weightOf 9 = .ok (.invokevirtual 71, 3) := by decide +kernel
theorem dX3_weightOf_12 : decode cX3_weightOf 12 = .ok (.iaload, 1) := by decide +kernel
theorem dX3_weightOf_13 : decode cX3_weightOf 13 = .ok (.ireturn, 1) := by decide +kernel
theorem dX3_wearOf_0 : decode cX3_wearOf 0 = .ok (.aload_n 0, 1) := by decide +kernel
theorem dX3_wearOf_1 : decode cX3_wearOf 1 = .ok (.getfield 10, 3) := by decide +kernel
theorem dX3_wearOf_4 : decode cX3_wearOf 4 = .ok (.getfield 93, 3) := by decide +kernel
theorem dX3_wearOf_7 : decode cX3_wearOf 7 = .ok (.aload_n 0, 1) := by decide +kernel
theorem dX3_wearOf_8 : decode cX3_wearOf 8 = .ok (.iload_n 1, 1) := by decide +kernel
theorem dX3_wearOf_9 : decode cX3_wearOf 9 = .ok (.invokevirtual 71, 3) := by decide +kernel
theorem dX3_wearOf_12 : decode cX3_wearOf 12 = .ok (.iaload, 1) := by decide +kernel
theorem dX3_wearOf_13 : decode cX3_wearOf 13 = .ok (.ireturn, 1) := by decide +kernel
theorem dX3_seatOf_0 : decode cX3_seatOf 0 = .ok (.aload_n 0, 1) := by decide +kernel
theorem dX3_seatOf_1 : decode cX3_seatOf 1 = .ok (.iload_n 1, 1) := by decide +kernel
theorem dX3_seatOf_2 : decode cX3_seatOf 2 = .ok (.invokevirtual 71, 3) := by decide +kernel
theorem dX3_seatOf_5 : decode cX3_seatOf 5 = .ok (.istore_n 2, 1) := by decide +kernel
theorem dX3_seatOf_6 : decode cX3_seatOf 6 = .ok (.aload_n 0, 1) := by decide +kernel
theorem dX3_seatOf_7 : decode cX3_seatOf 7 = .ok (.getfield 10, 3) := by decide +kernel
theorem dX3_seatOf_10 : decode cX3_seatOf 10 = .ok (.iload_n 2, 1) := by decide +kernel
theorem dX3_seatOf_11 : decode cX3_seatOf 11 = .ok (.invokevirtual 82, 3) := by decide +kernel
theorem dX3_seatOf_14 : decode cX3_seatOf 14 = .ok (.ifCond .ne 13, 3) := by decide +kernel
theorem dX3_seatOf_17 : decode cX3_seatOf 17 = .ok (.new 96, 3) := by decide +kernel
theorem dX3_seatOf_20 : decode cX3_seatOf 20 = .ok (.dup, 1) := by decide +kernel
theorem dX3_seatOf_21 : decode cX3_seatOf 21 = .ok (.ldc 98, 2) := by decide +kernel
theorem dX3_seatOf_23 : decode cX3_seatOf 23 = .ok (.invokespecial 100, 3) := by decide +kernel
theorem dX3_seatOf_26 : decode cX3_seatOf 26 = .ok (.athrow, 1) := by decide +kernel
theorem dX3_seatOf_27 : decode cX3_seatOf 27 = .ok (.aload_n 0, 1) := by decide +kernel
theorem dX3_seatOf_28 : decode cX3_seatOf 28 = .ok (.getfield 10, 3) := by decide +kernel
theorem dX3_seatOf_31 : decode cX3_seatOf 31 = .ok (.getfield 103, 3) := by decide +kernel
theorem dX3_seatOf_34 : decode cX3_seatOf 34 = .ok (.iload_n 2, 1) := by decide +kernel
theorem dX3_seatOf_35 : decode cX3_seatOf 35 = .ok (.iaload, 1) := by decide +kernel
theorem dX3_seatOf_36 : decode cX3_seatOf 36 = .ok (.ireturn, 1) := by decide +kernel
theorem dX3_idOfFound_0 : decode cX3_idOfFound 0 = .ok (.iload_n 1, 1) := by decide +kernel
theorem dX3_idOfFound_1 : decode cX3_idOfFound 1 = .ok (.iconst (-1), 1) := by decide +kernel
theorem dX3_idOfFound_2 : decode cX3_idOfFound 2 = .ok (.if_icmp .ne 14, 3) := by decide +kernel
theorem dX3_idOfFound_5 : decode cX3_idOfFound 5 = .ok (.new 96, 3) := by decide +kernel
theorem dX3_idOfFound_8 : decode cX3_idOfFound 8 = .ok (.dup, 1) := by decide +kernel
theorem dX3_idOfFound_9 : decode cX3_idOfFound 9 = .ok (.ldc_w 357, 3) := by decide +kernel
theorem dX3_idOfFound_12 : decode cX3_idOfFound 12 = .ok (.invokespecial 100, 3) := by decide +kernel
theorem dX3_idOfFound_15 : decode cX3_idOfFound 15 = .ok (.athrow, 1) := by decide +kernel
theorem dX3_idOfFound_16 : decode cX3_idOfFound 16 = .ok (.aload_n 0, 1) := by decide +kernel
theorem dX3_idOfFound_17 : decode cX3_idOfFound 17 = .ok (.getfield 10, 3) := by decide +kernel
theorem dX3_idOfFound_20 : decode cX3_idOfFound 20 = .ok (.getfield 359, 3) := by decide +kernel
theorem dX3_idOfFound_23 : decode cX3_idOfFound 23 = .ok (.iload_n 1, 1) := by decide +kernel
theorem dX3_idOfFound_24 : decode cX3_idOfFound 24 = .ok (.iaload, 1) := by decide +kernel
theorem dX3_idOfFound_25 : decode cX3_idOfFound 25 = .ok (.ireturn, 1) := by decide +kernel
theorem dX3_ribbonIn_0 : decode cX3_ribbonIn 0 = .ok (.iload_n 1, 1) := by decide +kernel
theorem dX3_ribbonIn_1 : decode cX3_ribbonIn 1 = .ok (.ifCond .lt 8, 3) := by decide +kernel
theorem dX3_ribbonIn_4 : decode cX3_ribbonIn 4 = .ok (.iload_n 1, 1) := by decide +kernel
theorem dX3_ribbonIn_5 : decode cX3_ribbonIn 5 = .ok (.iconst 5, 1) := by decide +kernel
theorem dX3_ribbonIn_6 : decode cX3_ribbonIn 6 = .ok (.if_icmp .lt 13, 3) := by decide +kernel
theorem dX3_ribbonIn_9 : decode cX3_ribbonIn 9 = .ok (.new 106, 3) := by decide +kernel
theorem dX3_ribbonIn_12 : decode cX3_ribbonIn 12 = .ok (.dup, 1) := by decide +kernel
theorem dX3_ribbonIn_13 : decode cX3_ribbonIn 13 = .ok (.ldc 108, 2) := by decide +kernel
theorem dX3_ribbonIn_15 : decode cX3_ribbonIn 15 = .ok (.invokespecial 110, 3) := by decide +kernel
theorem dX3_ribbonIn_18 : decode cX3_ribbonIn 18 = .ok (.athrow, 1) := by decide +kernel
theorem dX3_ribbonIn_19 : decode cX3_ribbonIn 19 = .ok (.aload_n 0, 1) := by decide +kernel
theorem dX3_ribbonIn_20 : decode cX3_ribbonIn 20 = .ok (.aload_n 0, 1) := by decide +kernel
theorem dX3_ribbonIn_21 : decode cX3_ribbonIn 21 = .ok (.getfield 10, 3) := by decide +kernel
theorem dX3_ribbonIn_24 : decode cX3_ribbonIn 24 = .ok (.iload_n 1, 1) := by decide +kernel
theorem dX3_ribbonIn_25 : decode cX3_ribbonIn 25 = .ok (.invokevirtual 111, 3) := by decide +kernel
theorem dX3_ribbonIn_28 : decode cX3_ribbonIn 28 = .ok (.invokevirtual 114, 3) := by decide +kernel
theorem dX3_ribbonIn_31 : decode cX3_ribbonIn 31 = .ok (.ireturn, 1) := by decide +kernel
theorem dX3_isHeld_0 : decode cX3_isHeld 0 = .ok (.aload_n 0, 1) := by decide +kernel
theorem dX3_isHeld_1 : decode cX3_isHeld 1 = .ok (.iload_n 1, 1) := by decide +kernel
theorem dX3_isHeld_2 : decode cX3_isHeld 2 = .ok (.invokevirtual 60, 3) := by decide +kernel
theorem dX3_isHeld_5 : decode cX3_isHeld 5 = .ok (.aload_n 0, 1) := by decide +kernel
theorem dX3_isHeld_6 : decode cX3_isHeld 6 = .ok (.getfield 10, 3) := by decide +kernel
theorem dX3_isHeld_9 : decode cX3_isHeld 9 = .ok (.iload_n 1, 1) := by decide +kernel
theorem dX3_isHeld_10 : decode cX3_isHeld 10 = .ok (.invokevirtual 117, 3) := by decide +kernel
theorem dX3_isHeld_13 : decode cX3_isHeld 13 = .ok (.iconst (-1), 1) := by decide +kernel
theorem dX3_isHeld_14 : decode cX3_isHeld 14 = .ok (.if_icmp .eq 7, 3) := by decide +kernel
theorem dX3_isHeld_17 : decode cX3_isHeld 17 = .ok (.iconst 1, 1) := by decide +kernel
theorem dX3_isHeld_18 : decode cX3_isHeld 18 = .ok (.goto 4, 3) := by decide +kernel
theorem dX3_isHeld_21 : decode cX3_isHeld 21 = .ok (.iconst 0, 1) := by decide +kernel
theorem dX3_isHeld_22 : decode cX3_isHeld 22 = .ok (.ireturn, 1) := by decide +kernel
theorem dX3_markOn_0 : decode cX3_markOn 0 = .ok (.aload_n 0, 1) := by decide +kernel
theorem dX3_markOn_1 : decode cX3_markOn 1 = .ok (.iload_n 1, 1) := by decide +kernel
theorem dX3_markOn_2 : decode cX3_markOn 2 = .ok (.invokevirtual 60, 3) := by decide +kernel
theorem dX3_markOn_5 : decode cX3_markOn 5 = .ok (.aload_n 0, 1) := by decide +kernel
theorem dX3_markOn_6 : decode cX3_markOn 6 = .ok (.aload_n 0, 1) := by decide +kernel
theorem dX3_markOn_7 : decode cX3_markOn 7 = .ok (.getfield 10, 3) := by decide +kernel
theorem dX3_markOn_10 : decode cX3_markOn 10 = .ok (.iload_n 1, 1) := by decide +kernel
theorem dX3_markOn_11 : decode cX3_markOn 11 = .ok (.invokevirtual 117, 3) := by decide +kernel
theorem dX3_markOn_14 : decode cX3_markOn 14 = .ok (.invokevirtual 114, 3) := by decide +kernel
theorem dX3_markOn_17 : decode cX3_markOn 17 = .ok (.ireturn, 1) := by decide +kernel
theorem dX3_nextMark_0 : decode cX3_nextMark 0 = .ok (.aload_n 0, 1) := by decide +kernel
theorem dX3_nextMark_1 : decode cX3_nextMark 1 = .ok (.iload_n 1, 1) := by decide +kernel
theorem dX3_nextMark_2 : decode cX3_nextMark 2 = .ok (.invokevirtual 60, 3) := by decide +kernel
theorem dX3_nextMark_5 : decode cX3_nextMark 5 = .ok (.aload_n 0, 1) := by decide +kernel
theorem dX3_nextMark_6 : decode cX3_nextMark 6 = .ok (.aload_n 0, 1) := by decide +kernel
theorem dX3_nextMark_7 : decode cX3_nextMark 7 = .ok (.getfield 10, 3) := by decide +kernel
theorem dX3_nextMark_10 : decode cX3_nextMark 10 = .ok (.iload_n 1, 1) := by decide +kernel
theorem dX3_nextMark_11 : decode cX3_nextMark 11 = .ok (.invokevirtual 120, 3) := by decide +kernel
theorem dX3_nextMark_14 : decode cX3_nextMark 14 = .ok (.invokevirtual 114, 3) := by decide +kernel
theorem dX3_nextMark_17 : decode cX3_nextMark 17 = .ok (.ireturn, 1) := by decide +kernel
theorem dX3_previousMark_0 : decode cX3_previousMark 0 = .ok (.aload_n 0, 1) := by decide +kernel
theorem dX3_previousMark_1 : decode cX3_previousMark 1 = .ok (.iload_n 1, 1) := by decide +kernel
theorem dX3_previousMark_2 : decode cX3_previousMark 2 = .ok (.invokevirtual 60, 3) := by decide +kernel
theorem dX3_previousMark_5 : decode cX3_previousMark 5 = .ok (.aload_n 0, 1) := by decide +kernel
theorem dX3_previousMark_6 : decode cX3_previousMark 6 = .ok (.aload_n 0, 1) := by decide +kernel
theorem dX3_previousMark_7 : decode cX3_previousMark 7 = .ok (.getfield 10, 3) := by decide +kernel
theorem dX3_previousMark_10 : decode cX3_previousMark 10 = .ok (.iload_n 1, 1) := by decide +kernel
theorem dX3_previousMark_11 : decode cX3_previousMark 11 = .ok (.invokevirtual 123, 3) := by decide +kernel
theorem dX3_previousMark_14 : decode cX3_previousMark 14 = .ok (.invokevirtual 114, 3) := by decide +kernel
theorem dX3_previousMark_17 : decode cX3_previousMark 17 = .ok (.ireturn, 1) := by decide +kernel
theorem dX3_nearestMark_0 : decode cX3_nearestMark 0 = .ok (.aload_n 0, 1) := by decide +kernel
theorem dX3_nearestMark_1 : decode cX3_nearestMark 1 = .ok (.iload_n 1, 1) := by decide +kernel
theorem dX3_nearestMark_2 : decode cX3_nearestMark 2 = .ok (.invokevirtual 60, 3) := by decide +kernel
theorem dX3_nearestMark_5 : decode cX3_nearestMark 5 = .ok (.aload_n 0, 1) := by decide +kernel
theorem dX3_nearestMark_6 : decode cX3_nearestMark 6 = .ok (.aload_n 0, 1) := by decide +kernel
theorem dX3_nearestMark_7 : decode cX3_nearestMark 7 = .ok (.getfield 10, 3) := by decide +kernel
theorem dX3_nearestMark_10 : decode cX3_nearestMark 10 = .ok (.iload_n 1, 1) := by decide +kernel
theorem dX3_nearestMark_11 : decode cX3_nearestMark 11 = .ok (.invokevirtual 126, 3) := by decide +kernel
theorem dX3_nearestMark_14 : decode cX3_nearestMark 14 = .ok (.invokevirtual 114, 3) := by decide +kernel
theorem dX3_nearestMark_17 : decode cX3_nearestMark 17 = .ok (.ireturn, 1) := by decide +kernel
theorem dX3_chapterOf_0 : decode cX3_chapterOf 0 = .ok (.aload_n 0, 1) := by decide +kernel
theorem dX3_chapterOf_1 : decode cX3_chapterOf 1 = .ok (.iload_n 1, 1) := by decide +kernel
theorem dX3_chapterOf_2 : decode cX3_chapterOf 2 = .ok (.invokevirtual 60, 3) := by decide +kernel
theorem dX3_chapterOf_5 : decode cX3_chapterOf 5 = .ok (.aload_n 0, 1) := by decide +kernel
theorem dX3_chapterOf_6 : decode cX3_chapterOf 6 = .ok (.getfield 10, 3) := by decide +kernel
theorem dX3_chapterOf_9 : decode cX3_chapterOf 9 = .ok (.iload_n 1, 1) := by decide +kernel
theorem dX3_chapterOf_10 : decode cX3_chapterOf 10 = .ok (.invokevirtual 129, 3) := by decide +kernel
theorem dX3_chapterOf_13 : decode cX3_chapterOf 13 = .ok (.ireturn, 1) := by decide +kernel
theorem dX3_startChapter_0 : decode cX3_startChapter 0 = .ok (.aload_n 0, 1) := by decide +kernel
theorem dX3_startChapter_1 : decode cX3_startChapter 1 = .ok (.iload_n 1, 1) := by decide +kernel
theorem dX3_startChapter_2 : decode cX3_startChapter 2 = .ok (.invokevirtual 60, 3) := by decide +kernel
theorem dX3_startChapter_5 : decode cX3_startChapter 5 = .ok (.aload_n 0, 1) := by decide +kernel
theorem dX3_startChapter_6 : decode cX3_startChapter 6 = .ok (.bipush 67, 2) := by decide +kernel
theorem dX3_startChapter_8 : decode cX3_startChapter 8 = .ok (.iload_n 1, 1) := by decide +kernel
theorem dX3_startChapter_9 : decode cX3_startChapter 9 = .ok (.iconst 0, 1) := by decide +kernel
theorem dX3_startChapter_10 : decode cX3_startChapter 10 = .ok (.invokevirtual 67, 3) := by decide +kernel
theorem dX3_startChapter_13 : decode cX3_startChapter 13 = .ok (.ireturn, 1) := by decide +kernel
theorem dX3_requireChapter_0 : decode cX3_requireChapter 0 = .ok (.aload_n 0, 1) := by decide +kernel
theorem dX3_requireChapter_1 : decode cX3_requireChapter 1 = .ok (.getfield 10, 3) := by decide +kernel
theorem dX3_requireChapter_4 : decode cX3_requireChapter 4 = .ok (.iload_n 1, 1) := by decide +kernel
theorem dX3_requireChapter_5 : decode cX3_requireChapter 5 = .ok (.invokevirtual 345, 3) := by decide +kernel
theorem dX3_requireChapter_8 : decode cX3_requireChapter 8 = .ok (.ifCond .ne 14, 3) := by decide +kernel
theorem dX3_requireChapter_11 : decode cX3_requireChapter 11 = .ok (.new 106, 3) := by decide +kernel
theorem dX3_requireChapter_14 : decode cX3_requireChapter 14 = .ok (.dup, 1) := by decide +kernel
theorem dX3_requireChapter_15 : decode cX3_requireChapter 15 = .ok (.ldc_w 348, 3) := by decide +kernel
theorem dX3_requireChapter_18 : decode cX3_requireChapter 18 = .ok (.invokespecial 110, 3) := by decide +kernel
theorem dX3_requireChapter_21 : decode cX3_requireChapter 21 = .ok (.athrow, 1) := by decide +kernel
theorem dX3_requireChapter_22 : decode cX3_requireChapter 22 = .ok (.return_, 1) := by decide +kernel
theorem dX3_voteToDissolve_0 : decode cX3_voteToDissolve 0 = .ok (.aload_n 0, 1) := by decide +kernel
theorem dX3_voteToDissolve_1 : decode cX3_voteToDissolve 1 = .ok (.iload_n 1, 1) := by decide +kernel
theorem dX3_voteToDissolve_2 : decode cX3_voteToDissolve 2 = .ok (.invokevirtual 132, 3) := by decide +kernel
theorem dX3_voteToDissolve_5 : decode cX3_voteToDissolve 5 = .ok (.aload_n 0, 1) := by decide +kernel
theorem dX3_voteToDissolve_6 : decode cX3_voteToDissolve 6 = .ok (.bipush 86, 2) := by decide +kernel
theorem dX3_voteToDissolve_8 : decode cX3_voteToDissolve 8 = .ok (.iload_n 1, 1) := by decide +kernel
theorem dX3_voteToDissolve_9 : decode cX3_voteToDissolve 9 = .ok (.iconst 0, 1) := by decide +kernel
theorem dX3_voteToDissolve_10 : decode cX3_voteToDissolve 10 = .ok (.invokevirtual 67, 3) := by decide +kernel
theorem dX3_voteToDissolve_13 : decode cX3_voteToDissolve 13 = .ok (.iconst 1, 1) := by decide +kernel
theorem dX3_voteToDissolve_14 : decode cX3_voteToDissolve 14 = .ok (.if_icmp .ne 7, 3) := by decide +kernel
theorem dX3_voteToDissolve_17 : decode cX3_voteToDissolve 17 = .ok (.iconst 1, 1) := by decide +kernel
theorem dX3_voteToDissolve_18 : decode cX3_voteToDissolve 18 = .ok (.goto 4, 3) := by decide +kernel
theorem dX3_voteToDissolve_21 : decode cX3_voteToDissolve 21 = .ok (.iconst 0, 1) := by decide +kernel
theorem dX3_voteToDissolve_22 : decode cX3_voteToDissolve 22 = .ok (.ireturn, 1) := by decide +kernel
theorem dX3_firstPage_0 : decode cX3_firstPage 0 = .ok (.aload_n 0, 1) := by decide +kernel
theorem dX3_firstPage_1 : decode cX3_firstPage 1 = .ok (.iload_n 1, 1) := by decide +kernel
theorem dX3_firstPage_2 : decode cX3_firstPage 2 = .ok (.invokevirtual 132, 3) := by decide +kernel
theorem dX3_firstPage_5 : decode cX3_firstPage 5 = .ok (.aload_n 0, 1) := by decide +kernel
theorem dX3_firstPage_6 : decode cX3_firstPage 6 = .ok (.getfield 10, 3) := by decide +kernel
theorem dX3_firstPage_9 : decode cX3_firstPage 9 = .ok (.getfield 135, 3) := by decide +kernel
theorem dX3_firstPage_12 : decode cX3_firstPage 12 = .ok (.iload_n 1, 1) := by decide +kernel
theorem dX3_firstPage_13 : decode cX3_firstPage 13 = .ok (.iaload, 1) := by decide +kernel
theorem dX3_firstPage_14 : decode cX3_firstPage 14 = .ok (.ireturn, 1) := by decide +kernel
theorem dX3_lastPage_0 : decode cX3_lastPage 0 = .ok (.aload_n 0, 1) := by decide +kernel
theorem dX3_lastPage_1 : decode cX3_lastPage 1 = .ok (.iload_n 1, 1) := by decide +kernel
theorem dX3_lastPage_2 : decode cX3_lastPage 2 = .ok (.invokevirtual 132, 3) := by decide +kernel
theorem dX3_lastPage_5 : decode cX3_lastPage 5 = .ok (.aload_n 0, 1) := by decide +kernel
theorem dX3_lastPage_6 : decode cX3_lastPage 6 = .ok (.getfield 10, 3) := by decide +kernel
theorem dX3_lastPage_9 : decode cX3_lastPage 9 = .ok (.iload_n 1, 1) := by decide +kernel
theorem dX3_lastPage_10 : decode cX3_lastPage 10 = .ok (.invokevirtual 138, 3) := by decide +kernel
theorem dX3_lastPage_13 : decode cX3_lastPage 13 = .ok (.ireturn, 1) := by decide +kernel
theorem dX3_heldPages_0 : decode cX3_heldPages 0 = .ok (.aload_n 0, 1) := by decide +kernel
theorem dX3_heldPages_1 : decode cX3_heldPages 1 = .ok (.iload_n 1, 1) := by decide +kernel
theorem dX3_heldPages_2 : decode cX3_heldPages 2 = .ok (.invokevirtual 132, 3) := by decide +kernel
theorem dX3_heldPages_5 : decode cX3_heldPages 5 = .ok (.aload_n 0, 1) := by decide +kernel
theorem dX3_heldPages_6 : decode cX3_heldPages 6 = .ok (.getfield 10, 3) := by decide +kernel
theorem dX3_heldPages_9 : decode cX3_heldPages 9 = .ok (.iload_n 1, 1) := by decide +kernel
theorem dX3_heldPages_10 : decode cX3_heldPages 10 = .ok (.invokevirtual 141, 3) := by decide +kernel
theorem dX3_heldPages_13 : decode cX3_heldPages 13 = .ok (.ireturn, 1) := by decide +kernel
theorem dX3_heldPagesByMarks_0 : decode cX3_heldPagesByMarks 0 = .ok (.aload_n 0, 1) := by decide +kernel
theorem dX3_heldPagesByMarks_1 : decode cX3_heldPagesByMarks 1 = .ok (.iload_n 1, 1) := by decide +kernel
theorem dX3_heldPagesByMarks_2 : decode cX3_heldPagesByMarks 2 = .ok (.invokevirtual 132, 3) := by decide +kernel
theorem dX3_heldPagesByMarks_5 : decode cX3_heldPagesByMarks 5 = .ok (.aload_n 0, 1) := by decide +kernel
theorem dX3_heldPagesByMarks_6 : decode cX3_heldPagesByMarks 6 = .ok (.getfield 10, 3) := by decide +kernel
theorem dX3_heldPagesByMarks_9 : decode cX3_heldPagesByMarks 9 = .ok (.iload_n 1, 1) := by decide +kernel
theorem dX3_heldPagesByMarks_10 : decode cX3_heldPagesByMarks 10 = .ok (.invokevirtual 144, 3) := by decide +kernel
theorem dX3_heldPagesByMarks_13 : decode cX3_heldPagesByMarks 13 = .ok (.ireturn, 1) := by decide +kernel
theorem dX3_chapterWeight_0 : decode cX3_chapterWeight 0 = .ok (.aload_n 0, 1) := by decide +kernel
theorem dX3_chapterWeight_1 : decode cX3_chapterWeight 1 = .ok (.iload_n 1, 1) := by decide +kernel
theorem dX3_chapterWeight_2 : decode cX3_chapterWeight 2 = .ok (.invokevirtual 132, 3) := by decide +kernel
theorem dX3_chapterWeight_5 : decode cX3_chapterWeight 5 = .ok (.aload_n 0, 1) := by decide +kernel
theorem dX3_chapterWeight_6 : decode cX3_chapterWeight 6 = .ok (.getfield 10, 3) := by decide +kernel
theorem dX3_chapterWeight_9 : decode cX3_chapterWeight 9 = .ok (.iload_n 1, 1) := by decide +kernel
theorem dX3_chapterWeight_10 : decode cX3_chapterWeight 10 = .ok (.invokevirtual 147, 3) := by decide +kernel
theorem dX3_chapterWeight_13 : decode cX3_chapterWeight 13 = .ok (.ireturn, 1) := by decide +kernel
theorem dX3_weightInFavour_0 : decode cX3_weightInFavour 0 = .ok (.aload_n 0, 1) := by decide +kernel
theorem dX3_weightInFavour_1 : decode cX3_weightInFavour 1 = .ok (.iload_n 1, 1) := by decide +kernel
theorem dX3_weightInFavour_2 : decode cX3_weightInFavour 2 = .ok (.invokevirtual 132, 3) := by decide +kernel
theorem dX3_weightInFavour_5 : decode cX3_weightInFavour 5 = .ok (.aload_n 0, 1) := by decide +kernel
theorem dX3_weightInFavour_6 : decode cX3_weightInFavour 6 = .ok (.getfield 10, 3) := by decide +kernel
theorem dX3_weightInFavour_9 : decode cX3_weightInFavour 9 = .ok (.iload_n 1, 1) := by decide +kernel
theorem dX3_weightInFavour_10 : decode cX3_weightInFavour 10 = .ok (.invokevirtual 150, 3) := by decide +kernel
theorem dX3_weightInFavour_13 : decode cX3_weightInFavour 13 = .ok (.ireturn, 1) := by decide +kernel
theorem dX3_weightAgainst_0 : decode cX3_weightAgainst 0 = .ok (.aload_n 0, 1) := by decide +kernel
theorem dX3_weightAgainst_1 : decode cX3_weightAgainst 1 = .ok (.iload_n 1, 1) := by decide +kernel
theorem dX3_weightAgainst_2 : decode cX3_weightAgainst 2 = .ok (.invokevirtual 132, 3) := by decide +kernel
theorem dX3_weightAgainst_5 : decode cX3_weightAgainst 5 = .ok (.aload_n 0, 1) := by decide +kernel
theorem dX3_weightAgainst_6 : decode cX3_weightAgainst 6 = .ok (.getfield 10, 3) := by decide +kernel
theorem dX3_weightAgainst_9 : decode cX3_weightAgainst 9 = .ok (.iload_n 1, 1) := by decide +kernel
theorem dX3_weightAgainst_10 : decode cX3_weightAgainst 10 = .ok (.invokevirtual 153, 3) := by decide +kernel
theorem dX3_weightAgainst_13 : decode cX3_weightAgainst 13 = .ok (.ireturn, 1) := by decide +kernel
theorem dX3_weightAgainstByTotal_0 : decode cX3_weightAgainstByTotal 0 = .ok (.aload_n 0, 1) := by decide +kernel
theorem dX3_weightAgainstByTotal_1 : decode cX3_weightAgainstByTotal 1 = .ok (.iload_n 1, 1) := by decide +kernel
theorem dX3_weightAgainstByTotal_2 : decode cX3_weightAgainstByTotal 2 = .ok (.invokevirtual 132, 3) := by decide +kernel
theorem dX3_weightAgainstByTotal_5 : decode cX3_weightAgainstByTotal 5 = .ok (.aload_n 0, 1) := by decide +kernel
theorem dX3_weightAgainstByTotal_6 : decode cX3_weightAgainstByTotal 6 = .ok (.getfield 10, 3) := by decide +kernel
theorem dX3_weightAgainstByTotal_9 : decode cX3_weightAgainstByTotal 9 = .ok (.iload_n 1, 1) := by decide +kernel
theorem dX3_weightAgainstByTotal_10 : decode cX3_weightAgainstByTotal 10 = .ok (.invokevirtual 156, 3) := by decide +kernel
theorem dX3_weightAgainstByTotal_13 : decode cX3_weightAgainstByTotal 13 = .ok (.ireturn, 1) := by decide +kernel
theorem dX3_wouldDissolve_0 : decode cX3_wouldDissolve 0 = .ok (.aload_n 0, 1) := by decide +kernel
theorem dX3_wouldDissolve_1 : decode cX3_wouldDissolve 1 = .ok (.iload_n 1, 1) := by decide +kernel
theorem dX3_wouldDissolve_2 : decode cX3_wouldDissolve 2 = .ok (.invokevirtual 132, 3) := by decide +kernel
theorem dX3_wouldDissolve_5 : decode cX3_wouldDissolve 5 = .ok (.aload_n 0, 1) := by decide +kernel
theorem dX3_wouldDissolve_6 : decode cX3_wouldDissolve 6 = .ok (.getfield 10, 3) := by decide +kernel
theorem dX3_wouldDissolve_9 : decode cX3_wouldDissolve 9 = .ok (.iload_n 1, 1) := by decide +kernel
theorem dX3_wouldDissolve_10 : decode cX3_wouldDissolve 10 = .ok (.invokevirtual 159, 3) := by decide +kernel
theorem dX3_wouldDissolve_13 : decode cX3_wouldDissolve 13 = .ok (.ireturn, 1) := by decide +kernel
theorem dX3_heaviestChapter_0 : decode cX3_heaviestChapter 0 = .ok (.aload_n 0, 1) := by decide +kernel
theorem dX3_heaviestChapter_1 : decode cX3_heaviestChapter 1 = .ok (.getfield 10, 3) := by decide +kernel
theorem dX3_heaviestChapter_4 : decode cX3_heaviestChapter 4 = .ok (.invokevirtual 162, 3) := by decide +kernel
theorem dX3_heaviestChapter_7 : decode cX3_heaviestChapter 7 = .ok (.ireturn, 1) := by decide +kernel
theorem dX3_requireCount_0 : decode cX3_requireCount 0 = .ok (.aload_n 0, 1) := by decide +kernel
theorem dX3_requireCount_1 : decode cX3_requireCount 1 = .ok (.getfield 10, 3) := by decide +kernel
theorem dX3_requireCount_4 : decode cX3_requireCount 4 = .ok (.iload_n 1, 1) := by decide +kernel
theorem dX3_requireCount_5 : decode cX3_requireCount 5 = .ok (.invokevirtual 340, 3) := by decide +kernel
theorem dX3_requireCount_8 : decode cX3_requireCount 8 = .ok (.ifCond .ne 14, 3) := by decide +kernel
theorem dX3_requireCount_11 : decode cX3_requireCount 11 = .ok (.new 256, 3) := by decide +kernel
theorem dX3_requireCount_14 : decode cX3_requireCount 14 = .ok (.dup, 1) := by decide +kernel
theorem dX3_requireCount_15 : decode cX3_requireCount 15 = .ok (.ldc_w 343, 3) := by decide +kernel
theorem dX3_requireCount_18 : decode cX3_requireCount 18 = .ok (.invokespecial 260, 3) := by decide +kernel
theorem dX3_requireCount_21 : decode cX3_requireCount 21 = .ok (.athrow, 1) := by decide +kernel
theorem dX3_requireCount_22 : decode cX3_requireCount 22 = .ok (.return_, 1) := by decide +kernel
theorem dX3_turnPages_0 : decode cX3_turnPages 0 = .ok (.aload_n 0, 1) := by decide +kernel
theorem dX3_turnPages_1 : decode cX3_turnPages 1 = .ok (.iload_n 1, 1) := by decide +kernel
theorem dX3_turnPages_2 : decode cX3_turnPages 2 = .ok (.invokevirtual 166, 3) := by decide +kernel
theorem dX3_turnPages_5 : decode cX3_turnPages 5 = .ok (.aload_n 0, 1) := by decide +kernel
theorem dX3_turnPages_6 : decode cX3_turnPages 6 = .ok (.iload_n 2, 1) := by decide +kernel
theorem dX3_turnPages_7 : decode cX3_turnPages 7 = .ok (.ifCond .eq 8, 3) := by decide +kernel
theorem dX3_turnPages_10 : decode cX3_turnPages 10 = .ok (.bipush 84, 2) := by decide +kernel
theorem dX3_turnPages_12 : decode cX3_turnPages 12 = .ok (.goto 5, 3) := by decide +kernel
theorem dX3_turnPages_15 : decode cX3_turnPages 15 = .ok (.bipush 66, 2) := by decide +kernel
theorem dX3_turnPages_17 : decode cX3_turnPages 17 = .ok (.iload_n 1, 1) := by decide +kernel
theorem dX3_turnPages_18 : decode cX3_turnPages 18 = .ok (.iconst 0, 1) := by decide +kernel
theorem dX3_turnPages_19 : decode cX3_turnPages 19 = .ok (.invokevirtual 67, 3) := by decide +kernel
theorem dX3_turnPages_22 : decode cX3_turnPages 22 = .ok (.ireturn, 1) := by decide +kernel
theorem dX3_currentPage_0 : decode cX3_currentPage 0 = .ok (.aload_n 0, 1) := by decide +kernel
theorem dX3_currentPage_1 : decode cX3_currentPage 1 = .ok (.getfield 10, 3) := by decide +kernel
theorem dX3_currentPage_4 : decode cX3_currentPage 4 = .ok (.getfield 169, 3) := by decide +kernel
theorem dX3_currentPage_7 : decode cX3_currentPage 7 = .ok (.ireturn, 1) := by decide +kernel
theorem dX3_pagesToNextMark_0 : decode cX3_pagesToNextMark 0 = .ok (.aload_n 0, 1) := by decide +kernel
theorem dX3_pagesToNextMark_1 : decode cX3_pagesToNextMark 1 = .ok (.getfield 10, 3) := by decide +kernel
theorem dX3_pagesToNextMark_4 : decode cX3_pagesToNextMark 4 = .ok (.aload_n 0, 1) := by decide +kernel
theorem dX3_pagesToNextMark_5 : decode cX3_pagesToNextMark 5 = .ok (.getfield 10, 3) := by decide +kernel
theorem dX3_pagesToNextMark_8 : decode cX3_pagesToNextMark 8 = .ok (.getfield 169, 3) := by decide +kernel
theorem dX3_pagesToNextMark_11 : decode cX3_pagesToNextMark 11 = .ok (.iconst 1, 1) := by decide +kernel
theorem dX3_pagesToNextMark_12 : decode cX3_pagesToNextMark 12 = .ok (.iadd, 1) := by decide +kernel
theorem dX3_pagesToNextMark_13 : decode cX3_pagesToNextMark 13 = .ok (.invokevirtual 120, 3) := by decide +kernel
theorem dX3_pagesToNextMark_16 : decode cX3_pagesToNextMark 16 = .ok (.istore_n 1, 1) := by decide +kernel
theorem dX3_pagesToNextMark_17 : decode cX3_pagesToNextMark 17 = .ok (.iload_n 1, 1) := by decide +kernel
theorem dX3_pagesToNextMark_18 : decode cX3_pagesToNextMark 18 = .ok (.iconst (-1), 1) := by decide +kernel
theorem dX3_pagesToNextMark_19 : decode cX3_pagesToNextMark 19 = .ok (.if_icmp .ne 13, 3) := by decide +kernel
theorem dX3_pagesToNextMark_22 : decode cX3_pagesToNextMark 22 = .ok (.new 96, 3) := by decide +kernel
theorem dX3_pagesToNextMark_25 : decode cX3_pagesToNextMark 25 = .ok (.dup, 1) := by decide +kernel
theorem dX3_pagesToNextMark_26 : decode cX3_pagesToNextMark 26 = .ok (.ldc 172, 2) := by decide +kernel
theorem dX3_pagesToNextMark_28 : decode cX3_pagesToNextMark 28 = .ok (.invokespecial 100, 3) := by decide +kernel
theorem dX3_pagesToNextMark_31 : decode cX3_pagesToNextMark 31 = .ok (.athrow, 1) := by decide +kernel
theorem dX3_pagesToNextMark_32 : decode cX3_pagesToNextMark 32 = .ok (.aload_n 0, 1) := by decide +kernel
theorem dX3_pagesToNextMark_33 : decode cX3_pagesToNextMark 33 = .ok (.getfield 10, 3) := by decide +kernel
theorem dX3_pagesToNextMark_36 : decode cX3_pagesToNextMark 36 = .ok (.getfield 86, 3) := by decide +kernel
theorem dX3_pagesToNextMark_39 : decode cX3_pagesToNextMark 39 = .ok (.iload_n 1, 1) := by decide +kernel
theorem dX3_pagesToNextMark_40 : decode cX3_pagesToNextMark 40 = .ok (.iaload, 1) := by decide +kernel
theorem dX3_pagesToNextMark_41 : decode cX3_pagesToNextMark 41 = .ok (.aload_n 0, 1) := by decide +kernel
theorem dX3_pagesToNextMark_42 : decode cX3_pagesToNextMark 42 = .ok (.getfield 10, 3) := by decide +kernel
theorem dX3_pagesToNextMark_45 : decode cX3_pagesToNextMark 45 = .ok (.getfield 169, 3) := by decide +kernel
theorem dX3_pagesToNextMark_48 : decode cX3_pagesToNextMark 48 = .ok (.isub, 1) := by decide +kernel
theorem dX3_pagesToNextMark_49 : decode cX3_pagesToNextMark 49 = .ok (.ireturn, 1) := by decide +kernel
theorem dX3_earsAtRisk_0 : decode cX3_earsAtRisk 0 = .ok (.aload_n 0, 1) := by decide +kernel
theorem dX3_earsAtRisk_1 : decode cX3_earsAtRisk 1 = .ok (.iload_n 1, 1) := by decide +kernel
theorem dX3_earsAtRisk_2 : decode cX3_earsAtRisk 2 = .ok (.invokevirtual 166, 3) := by decide +kernel
theorem dX3_earsAtRisk_5 : decode cX3_earsAtRisk 5 = .ok (.aload_n 0, 1) := by decide +kernel
theorem dX3_earsAtRisk_6 : decode cX3_earsAtRisk 6 = .ok (.getfield 10, 3) := by decide +kernel
theorem dX3_earsAtRisk_9 : decode cX3_earsAtRisk 9 = .ok (.iload_n 1, 1) := by decide +kernel
theorem dX3_earsAtRisk_10 : decode cX3_earsAtRisk 10 = .ok (.iload_n 2, 1) := by decide +kernel
theorem dX3_earsAtRisk_11 : decode cX3_earsAtRisk 11 = .ok (.invokevirtual 174, 3) := by decide +kernel
theorem dX3_earsAtRisk_14 : decode cX3_earsAtRisk 14 = .ok (.ireturn, 1) := by decide +kernel
theorem dX3_markByPage_0 : decode cX3_markByPage 0 = .ok (.aload_n 0, 1) := by decide +kernel
theorem dX3_markByPage_1 : decode cX3_markByPage 1 = .ok (.iload_n 1, 1) := by decide +kernel
theorem dX3_markByPage_2 : decode cX3_markByPage 2 = .ok (.ifCond .lt 18, 3) := by decide +kernel
theorem dX3_markByPage_5 : decode cX3_markByPage 5 = .ok (.iload_n 1, 1) := by decide +kernel
theorem dX3_markByPage_6 : decode cX3_markByPage 6 = .ok (.aload_n 0, 1) := by decide +kernel
theorem dX3_markByPage_7 : decode cX3_markByPage 7 = .ok (.getfield 10, 3) := by decide +kernel
theorem dX3_markByPage_10 : decode cX3_markByPage 10 = .ok (.getfield 178, 3) := by decide +kernel
theorem dX3_markByPage_13 : decode cX3_markByPage 13 = .ok (.if_icmp .ge 7, 3) := by decide +kernel
theorem dX3_markByPage_16 : decode cX3_markByPage 16 = .ok (.iload_n 1, 1) := by decide +kernel
theorem dX3_markByPage_17 : decode cX3_markByPage 17 = .ok (.goto 4, 3) := by decide +kernel
theorem dX3_markByPage_20 : decode cX3_markByPage 20 = .ok (.iconst (-1), 1) := by decide +kernel
theorem dX3_markByPage_21 : decode cX3_markByPage 21 = .ok (.invokevirtual 114, 3) := by decide +kernel
theorem dX3_markByPage_24 : decode cX3_markByPage 24 = .ok (.ireturn, 1) := by decide +kernel
theorem dX3_markByWeight_0 : decode cX3_markByWeight 0 = .ok (.aload_n 0, 1) := by decide +kernel
theorem dX3_markByWeight_1 : decode cX3_markByWeight 1 = .ok (.aload_n 0, 1) := by decide +kernel
theorem dX3_markByWeight_2 : decode cX3_markByWeight 2 = .ok (.getfield 10, 3) := by decide +kernel
theorem dX3_markByWeight_5 : decode cX3_markByWeight 5 = .ok (.iload_n 1, 1) := by decide +kernel
theorem dX3_markByWeight_6 : decode cX3_markByWeight 6 = .ok (.invokevirtual 181, 3) := by decide +kernel
theorem dX3_markByWeight_9 : decode cX3_markByWeight 9 = .ok (.invokevirtual 114, 3) := by decide +kernel
theorem dX3_markByWeight_12 : decode cX3_markByWeight 12 = .ok (.ireturn, 1) := by decide +kernel
theorem dX3_span_0 : decode cX3_span 0 = .ok (.aload_n 0, 1) := by decide +kernel
theorem dX3_span_1 : decode cX3_span 1 = .ok (.getfield 10, 3) := by decide +kernel
theorem dX3_span_4 : decode cX3_span 4 = .ok (.invokevirtual 184, 3) := by decide +kernel
theorem dX3_span_7 : decode cX3_span 7 = .ok (.ireturn, 1) := by decide +kernel
theorem dX3_spanByEnds_0 : decode cX3_spanByEnds 0 = .ok (.aload_n 0, 1) := by decide +kernel
theorem dX3_spanByEnds_1 : decode cX3_spanByEnds 1 = .ok (.getfield 10, 3) := by decide +kernel
theorem dX3_spanByEnds_4 : decode cX3_spanByEnds 4 = .ok (.invokevirtual 187, 3) := by decide +kernel
theorem dX3_spanByEnds_7 : decode cX3_spanByEnds 7 = .ok (.ireturn, 1) := by decide +kernel
theorem dX3_ribbonWeight_0 : decode cX3_ribbonWeight 0 = .ok (.aload_n 0, 1) := by decide +kernel
theorem dX3_ribbonWeight_1 : decode cX3_ribbonWeight 1 = .ok (.getfield 10, 3) := by decide +kernel
theorem dX3_ribbonWeight_4 : decode cX3_ribbonWeight 4 = .ok (.iconst 1, 1) := by decide +kernel
theorem dX3_ribbonWeight_5 : decode cX3_ribbonWeight 5 = .ok (.invokevirtual 190, 3) := by decide +kernel
theorem dX3_ribbonWeight_8 : decode cX3_ribbonWeight 8 = .ok (.ireturn, 1) := by decide +kernel
theorem dX3_dogEarWeight_0 : decode cX3_dogEarWeight 0 = .ok (.aload_n 0, 1) := by decide +kernel
theorem dX3_dogEarWeight_1 : decode cX3_dogEarWeight 1 = .ok (.getfield 10, 3) := by decide +kernel
theorem dX3_dogEarWeight_4 : decode cX3_dogEarWeight 4 = .ok (.iconst 0, 1) := by decide +kernel
theorem dX3_dogEarWeight_5 : decode cX3_dogEarWeight 5 = .ok (.invokevirtual 190, 3) := by decide +kernel
theorem dX3_dogEarWeight_8 : decode cX3_dogEarWeight 8 = .ok (.ireturn, 1) := by decide +kernel
theorem dX3_markCount_0 : decode cX3_markCount 0 = .ok (.aload_n 0, 1) := by decide +kernel
theorem dX3_markCount_1 : decode cX3_markCount 1 = .ok (.getfield 10, 3) := by decide +kernel
theorem dX3_markCount_4 : decode cX3_markCount 4 = .ok (.getfield 178, 3) := by decide +kernel
theorem dX3_markCount_7 : decode cX3_markCount 7 = .ok (.ireturn, 1) := by decide +kernel
theorem dX3_ribbonCount_0 : decode cX3_ribbonCount 0 = .ok (.aload_n 0, 1) := by decide +kernel
theorem dX3_ribbonCount_1 : decode cX3_ribbonCount 1 = .ok (.getfield 10, 3) := by decide +kernel
theorem dX3_ribbonCount_4 : decode cX3_ribbonCount 4 = .ok (.invokevirtual 194, 3) := by decide +kernel
theorem dX3_ribbonCount_7 : decode cX3_ribbonCount 7 = .ok (.ireturn, 1) := by decide +kernel
theorem dX3_chapterCount_0 : decode cX3_chapterCount 0 = .ok (.aload_n 0, 1) := by decide +kernel
theorem dX3_chapterCount_1 : decode cX3_chapterCount 1 = .ok (.getfield 10, 3) := by decide +kernel
theorem dX3_chapterCount_4 : decode cX3_chapterCount 4 = .ok (.getfield 197, 3) := by decide +kernel
theorem dX3_chapterCount_7 : decode cX3_chapterCount 7 = .ok (.ireturn, 1) := by decide +kernel
theorem dX3_votesHeld_0 : decode cX3_votesHeld 0 = .ok (.aload_n 0, 1) := by decide +kernel
theorem dX3_votesHeld_1 : decode cX3_votesHeld 1 = .ok (.getfield 10, 3) := by decide +kernel
theorem dX3_votesHeld_4 : decode cX3_votesHeld 4 = .ok (.getfield 200, 3) := by decide +kernel
theorem dX3_votesHeld_7 : decode cX3_votesHeld 7 = .ok (.ireturn, 1) := by decide +kernel
theorem dX3_motionsCarried_0 : decode cX3_motionsCarried 0 = .ok (.aload_n 0, 1) := by decide +kernel
theorem dX3_motionsCarried_1 : decode cX3_motionsCarried 1 = .ok (.getfield 10, 3) := by decide +kernel
theorem dX3_motionsCarried_4 : decode cX3_motionsCarried 4 = .ok (.getfield 203, 3) := by decide +kernel
theorem dX3_motionsCarried_7 : decode cX3_motionsCarried 7 = .ok (.ireturn, 1) := by decide +kernel
theorem dX3_fallenEars_0 : decode cX3_fallenEars 0 = .ok (.aload_n 0, 1) := by decide +kernel
theorem dX3_fallenEars_1 : decode cX3_fallenEars 1 = .ok (.getfield 10, 3) := by decide +kernel
theorem dX3_fallenEars_4 : decode cX3_fallenEars 4 = .ok (.getfield 206, 3) := by decide +kernel
theorem dX3_fallenEars_7 : decode cX3_fallenEars 7 = .ok (.ireturn, 1) := by decide +kernel
theorem dX3_isConsistent_0 : decode cX3_isConsistent 0 = .ok (.aload_n 0, 1) := by decide +kernel
theorem dX3_isConsistent_1 : decode cX3_isConsistent 1 = .ok (.getfield 10, 3) := by decide +kernel
theorem dX3_isConsistent_4 : decode cX3_isConsistent 4 = .ok (.invokevirtual 217, 3) := by decide +kernel
theorem dX3_isConsistent_7 : decode cX3_isConsistent 7 = .ok (.ifCond .eq 44, 3) := by decide +kernel
theorem dX3_isConsistent_10 : decode cX3_isConsistent 10 = .ok (.aload_n 0, 1) := by decide +kernel
theorem dX3_isConsistent_11 : decode cX3_isConsistent 11 = .ok (.getfield 10, 3) := by decide +kernel
theorem dX3_isConsistent_14 : decode cX3_isConsistent 14 = .ok (.invokevirtual 184, 3) := by decide +kernel
theorem dX3_isConsistent_17 : decode cX3_isConsistent 17 = .ok (.aload_n 0, 1) := by decide +kernel
theorem dX3_isConsistent_18 : decode cX3_isConsistent 18 = .ok (.getfield 10, 3) := by decide +kernel
theorem dX3_isConsistent_21 : decode cX3_isConsistent 21 = .ok (.invokevirtual 187, 3) := by decide +kernel
theorem dX3_isConsistent_24 : decode cX3_isConsistent 24 = .ok (.if_icmp .ne 27, 3) := by decide +kernel
theorem dX3_isConsistent_27 : decode cX3_isConsistent 27 = .ok (.aload_n 0, 1) := by decide +kernel
theorem dX3_isConsistent_28 : decode cX3_isConsistent 28 = .ok (.getfield 10, 3) := by decide +kernel
theorem dX3_isConsistent_31 : decode cX3_isConsistent 31 = .ok (.invokevirtual 221, 3) := by decide +kernel
theorem dX3_isConsistent_34 : decode cX3_isConsistent 34 = .ok (.ifCond .eq 17, 3) := by decide +kernel
theorem dX3_isConsistent_37 : decode cX3_isConsistent 37 = .ok (.aload_n 0, 1) := by decide +kernel
theorem dX3_isConsistent_38 : decode cX3_isConsistent 38 = .ok (.getfield 10, 3) := by decide +kernel
theorem dX3_isConsistent_41 : decode cX3_isConsistent 41 = .ok (.invokevirtual 224, 3) := by decide +kernel
theorem dX3_isConsistent_44 : decode cX3_isConsistent 44 = .ok (.ifCond .eq 7, 3) := by decide +kernel
theorem dX3_isConsistent_47 : decode cX3_isConsistent 47 = .ok (.iconst 1, 1) := by decide +kernel
theorem dX3_isConsistent_48 : decode cX3_isConsistent 48 = .ok (.goto 4, 3) := by decide +kernel
theorem dX3_isConsistent_51 : decode cX3_isConsistent 51 = .ok (.iconst 0, 1) := by decide +kernel
theorem dX3_isConsistent_52 : decode cX3_isConsistent 52 = .ok (.ireturn, 1) := by decide +kernel
theorem dX3_appendInput_0 : decode cX3_appendInput 0 = .ok (.iload_n 1, 1) := by decide +kernel
theorem dX3_appendInput_1 : decode cX3_appendInput 1 = .ok (.bipush 32, 2) := by decide +kernel
theorem dX3_appendInput_3 : decode cX3_appendInput 3 = .ok (.if_icmp .lt 9, 3) := by decide +kernel
theorem dX3_appendInput_6 : decode cX3_appendInput 6 = .ok (.iload_n 1, 1) := by decide +kernel
theorem dX3_appendInput_7 : decode cX3_appendInput 7 = .ok (.bipush 126, 2) := by decide +kernel
theorem dX3_appendInput_9 : decode cX3_appendInput 9 = .ok (.if_icmp .le 14, 3) := by decide +kernel
theorem dX3_appendInput_12 : decode cX3_appendInput 12 = .ok (.new 256, 3) := by decide +kernel
theorem dX3_appendInput_15 : decode cX3_appendInput 15 = .ok (.dup, 1) := by decide +kernel
theorem dX3_appendInput_16 : decode cX3_appendInput 16 = .ok (.ldc_w 258, 3) := by decide +kernel
theorem dX3_appendInput_19 : decode cX3_appendInput 19 = .ok (.invokespecial 260, 3) := by decide +kernel
theorem dX3_appendInput_22 : decode cX3_appendInput 22 = .ok (.athrow, 1) := by decide +kernel
theorem dX3_appendInput_23 : decode cX3_appendInput 23 = .ok (.aload_n 0, 1) := by decide +kernel
theorem dX3_appendInput_24 : decode cX3_appendInput 24 = .ok (.getfield 32, 3) := by decide +kernel
theorem dX3_appendInput_27 : decode cX3_appendInput 27 = .ok (.getfield 261, 3) := by decide +kernel
theorem dX3_appendInput_30 : decode cX3_appendInput 30 = .ok (.bipush 60, 2) := by decide +kernel
theorem dX3_appendInput_32 : decode cX3_appendInput 32 = .ok (.if_icmp .lt 14, 3) := by decide +kernel
theorem dX3_appendInput_35 : decode cX3_appendInput 35 = .ok (.new 263, 3) := by decide +kernel
theorem dX3_appendInput_38 : decode cX3_appendInput 38 = .ok (.dup, 1) := by decide +kernel
theorem dX3_appendInput_39 : decode cX3_appendInput 39 = .ok (.ldc_w 265, 3) := by decide +kernel
theorem dX3_appendInput_42 : decode cX3_appendInput 42 = .ok (.invokespecial 267, 3) := by decide +kernel
theorem dX3_appendInput_45 : decode cX3_appendInput 45 = .ok (.athrow, 1) := by decide +kernel
theorem dX3_appendInput_46 : decode cX3_appendInput 46 = .ok (.aload_n 0, 1) := by decide +kernel
theorem dX3_appendInput_47 : decode cX3_appendInput 47 = .ok (.getfield 32, 3) := by decide +kernel
theorem dX3_appendInput_50 : decode cX3_appendInput 50 = .ok (.iload_n 1, 1) := by decide +kernel
theorem dX3_appendInput_51 : decode cX3_appendInput 51 = .ok (.invokevirtual 268, 3) := by decide +kernel
theorem dX3_appendInput_54 : decode cX3_appendInput 54 = .ok (.ireturn, 1) := by decide +kernel
theorem dX3_execute_0 : decode cX3_execute 0 = .ok (.aload_n 0, 1) := by decide +kernel
theorem dX3_execute_1 : decode cX3_execute 1 = .ok (.getfield 32, 3) := by decide +kernel
theorem dX3_execute_4 : decode cX3_execute 4 = .ok (.invokevirtual 271, 3) := by decide +kernel
theorem dX3_execute_7 : decode cX3_execute 7 = .ok (.istore_n 1, 1) := by decide +kernel
theorem dX3_execute_8 : decode cX3_execute 8 = .ok (.iload_n 1, 1) := by decide +kernel
theorem dX3_execute_9 : decode cX3_execute 9 = .ok (.iconst (-1), 1) := by decide +kernel
theorem dX3_execute_10 : decode cX3_execute 10 = .ok (.if_icmp .eq 19, 3) := by decide +kernel
theorem dX3_execute_13 : decode cX3_execute 13 = .ok (.aload_n 0, 1) := by decide +kernel
theorem dX3_execute_14 : decode cX3_execute 14 = .ok (.iload_n 1, 1) := by decide +kernel
theorem dX3_execute_15 : decode cX3_execute 15 = .ok (.putfield 47, 3) := by decide +kernel
theorem dX3_execute_18 : decode cX3_execute 18 = .ok (.new 256, 3) := by decide +kernel
theorem dX3_execute_21 : decode cX3_execute 21 = .ok (.dup, 1) := by decide +kernel
theorem dX3_execute_22 : decode cX3_execute 22 = .ok (.ldc_w 274, 3) := by decide +kernel
theorem dX3_execute_25 : decode cX3_execute 25 = .ok (.invokespecial 260, 3) := by decide +kernel
theorem dX3_execute_28 : decode cX3_execute 28 = .ok (.athrow, 1) := by decide +kernel
theorem dX3_execute_29 : decode cX3_execute 29 = .ok (.aload_n 0, 1) := by decide +kernel
theorem dX3_execute_30 : decode cX3_execute 30 = .ok (.getfield 16, 3) := by decide +kernel
theorem dX3_execute_33 : decode cX3_execute 33 = .ok (.aload_n 0, 1) := by decide +kernel
theorem dX3_execute_34 : decode cX3_execute 34 = .ok (.getfield 10, 3) := by decide +kernel
theorem dX3_execute_37 : decode cX3_execute 37 = .ok (.invokevirtual 276, 3) := by decide +kernel
theorem dX3_execute_40 : decode cX3_execute 40 = .ok (.iconst 0, 1) := by decide +kernel
theorem dX3_execute_41 : decode cX3_execute 41 = .ok (.istore_n 2, 1) := by decide +kernel
theorem dX3_execute_42 : decode cX3_execute 42 = .ok (.iload_n 2, 1) := by decide +kernel
theorem dX3_execute_43 : decode cX3_execute 43 = .ok (.aload_n 0, 1) := by decide +kernel
theorem dX3_execute_44 : decode cX3_execute 44 = .ok (.getfield 32, 3) := by decide +kernel
theorem dX3_execute_47 : decode cX3_execute 47 = .ok (.getfield 279, 3) := by decide +kernel
theorem dX3_execute_50 : decode cX3_execute 50 = .ok (.if_icmp .ge 141, 3) := by decide +kernel
theorem dX3_execute_53 : decode cX3_execute 53 = .ok (.aload_n 0, 1) := by decide +kernel
theorem dX3_execute_54 : decode cX3_execute 54 = .ok (.getfield 32, 3) := by decide +kernel
theorem dX3_execute_57 : decode cX3_execute 57 = .ok (.getfield 282, 3) := by decide +kernel
theorem dX3_execute_60 : decode cX3_execute 60 = .ok (.iload_n 2, 1) := by decide +kernel
theorem dX3_execute_61 : decode cX3_execute 61 = .ok (.caload, 1) := by decide +kernel
theorem dX3_execute_62 : decode cX3_execute 62 = .ok (.istore_n 3, 1) := by decide +kernel
theorem dX3_execute_63 : decode cX3_execute 63 = .ok (.aload_n 0, 1) := by decide +kernel
theorem dX3_execute_64 : decode cX3_execute 64 = .ok (.getfield 32, 3) := by decide +kernel
theorem dX3_execute_67 : decode cX3_execute 67 = .ok (.getfield 286, 3) := by decide +kernel
theorem dX3_execute_70 : decode cX3_execute 70 = .ok (.iload_n 2, 1) := by decide +kernel
theorem dX3_execute_71 : decode cX3_execute 71 = .ok (.iaload, 1) := by decide +kernel
theorem dX3_execute_72 : decode cX3_execute 72 = .ok (.istore 4, 2) := by decide +kernel
theorem dX3_execute_74 : decode cX3_execute 74 = .ok (.aload_n 0, 1) := by decide +kernel
theorem dX3_execute_75 : decode cX3_execute 75 = .ok (.getfield 32, 3) := by decide +kernel
theorem dX3_execute_78 : decode cX3_execute 78 = .ok (.getfield 289, 3) := by decide +kernel
theorem dX3_execute_81 : decode cX3_execute 81 = .ok (.iload_n 2, 1) := by decide +kernel
theorem dX3_execute_82 : decode cX3_execute 82 = .ok (.iaload, 1) := by decide +kernel
theorem dX3_execute_83 : decode cX3_execute 83 = .ok (.istore 5, 2) := by decide +kernel
theorem dX3_execute_85 : decode cX3_execute 85 = .ok (.aload_n 0, 1) := by decide +kernel
theorem dX3_execute_86 : decode cX3_execute 86 = .ok (.getfield 10, 3) := by decide +kernel
theorem dX3_execute_89 : decode cX3_execute 89 = .ok (.iload_n 3, 1) := by decide +kernel
theorem dX3_execute_90 : decode cX3_execute 90 = .ok (.iload 4, 2) := by decide +kernel
theorem dX3_execute_92 : decode cX3_execute 92 = .ok (.iload 5, 2) := by decide +kernel
theorem dX3_execute_94 : decode cX3_execute 94 = .ok (.invokevirtual 292, 3) := by decide +kernel
theorem dX3_execute_97 : decode cX3_execute 97 = .ok (.ifCond .ne 25, 3) := by decide +kernel
theorem dX3_execute_100 : decode cX3_execute 100 = .ok (.aload_n 0, 1) := by decide +kernel
theorem dX3_execute_101 : decode cX3_execute 101 = .ok (.getfield 10, 3) := by decide +kernel
theorem dX3_execute_104 : decode cX3_execute 104 = .ok (.aload_n 0, 1) := by decide +kernel
theorem dX3_execute_105 : decode cX3_execute 105 = .ok (.getfield 16, 3) := by decide +kernel
theorem dX3_execute_108 : decode cX3_execute 108 = .ok (.invokevirtual 276, 3) := by decide +kernel
theorem dX3_execute_111 : decode cX3_execute 111 = .ok (.new 263, 3) := by decide +kernel
theorem dX3_execute_114 : decode cX3_execute 114 = .ok (.dup, 1) := by decide +kernel
theorem dX3_execute_115 : decode cX3_execute 115 = .ok (.ldc_w 296, 3) := by decide +kernel
theorem dX3_execute_118 : decode cX3_execute 118 = .ok (.invokespecial 267, 3) := by decide +kernel
theorem dX3_execute_121 : decode cX3_execute 121 = .ok (.athrow, 1) := by decide +kernel
theorem dX3_execute_122 : decode cX3_execute 122 = .ok (.aload_n 0, 1) := by decide +kernel
theorem dX3_execute_123 : decode cX3_execute 123 = .ok (.getfield 10, 3) := by decide +kernel
theorem dX3_execute_126 : decode cX3_execute 126 = .ok (.iload_n 3, 1) := by decide +kernel
theorem dX3_execute_127 : decode cX3_execute 127 = .ok (.iload 4, 2) := by decide +kernel
theorem dX3_execute_129 : decode cX3_execute 129 = .ok (.iload 5, 2) := by decide +kernel
theorem dX3_execute_131 : decode cX3_execute 131 = .ok (.invokevirtual 298, 3) := by decide +kernel
theorem dX3_execute_134 : decode cX3_execute 134 = .ok (.istore 6, 2) := by decide +kernel
theorem dX3_execute_136 : decode cX3_execute 136 = .ok (.iload 6, 2) := by decide +kernel
theorem dX3_execute_138 : decode cX3_execute 138 = .ok (.ifCond .eq 34, 3) := by decide +kernel
theorem dX3_execute_141 : decode cX3_execute 141 = .ok (.aload_n 0, 1) := by decide +kernel
theorem dX3_execute_142 : decode cX3_execute 142 = .ok (.getfield 10, 3) := by decide +kernel
theorem dX3_execute_145 : decode cX3_execute 145 = .ok (.aload_n 0, 1) := by decide +kernel
theorem dX3_execute_146 : decode cX3_execute 146 = .ok (.getfield 16, 3) := by decide +kernel
theorem dX3_execute_149 : decode cX3_execute 149 = .ok (.invokevirtual 276, 3) := by decide +kernel
theorem dX3_execute_152 : decode cX3_execute 152 = .ok (.aload_n 0, 1) := by decide +kernel
theorem dX3_execute_153 : decode cX3_execute 153 = .ok (.bipush 10, 2) := by decide +kernel
theorem dX3_execute_155 : decode cX3_execute 155 = .ok (.iload_n 2, 1) := by decide +kernel
theorem dX3_execute_156 : decode cX3_execute 156 = .ok (.iload 6, 2) := by decide +kernel
theorem dX3_execute_158 : decode cX3_execute 158 = .ok (.invokevirtual 301, 3) := by decide +kernel
theorem dX3_execute_161 : decode cX3_execute 161 = .ok (.new 305, 3) := by decide +kernel
theorem dX3_execute_164 : decode cX3_execute 164 = .ok (.dup, 1) := by decide +kernel
theorem dX3_execute_165 : decode cX3_execute 165 = .ok (.ldc_w 307, 3) := by decide +kernel
theorem dX3_execute_168 : decode cX3_execute 168 = .ok (.invokespecial 309, 3) := by decide +kernel
theorem dX3_execute_171 : decode cX3_execute 171 = .ok (.athrow, 1) := by decide +kernel
theorem dX3_execute_172 : decode cX3_execute 172 = .ok (.aload_n 0, 1) := by decide +kernel
theorem dX3_execute_173 : decode cX3_execute 173 = .ok (.getfield 10, 3) := by decide +kernel
theorem dX3_execute_176 : decode cX3_execute 176 = .ok (.iload_n 3, 1) := by decide +kernel
theorem dX3_execute_177 : decode cX3_execute 177 = .ok (.iload 4, 2) := by decide +kernel
theorem dX3_execute_179 : decode cX3_execute 179 = .ok (.iload 5, 2) := by decide +kernel
theorem dX3_execute_181 : decode cX3_execute 181 = .ok (.invokevirtual 79, 3) := by decide +kernel
theorem dX3_execute_184 : decode cX3_execute 184 = .ok (.pop, 1) := by decide +kernel
theorem dX3_execute_185 : decode cX3_execute 185 = .ok (.iinc 2 1, 3) := by decide +kernel
theorem dX3_execute_188 : decode cX3_execute 188 = .ok (.goto (-146), 3) := by decide +kernel
theorem dX3_execute_191 : decode cX3_execute 191 = .ok (.aload_n 0, 1) := by decide +kernel
theorem dX3_execute_192 : decode cX3_execute 192 = .ok (.getfield 25, 3) := by decide +kernel
theorem dX3_execute_195 : decode cX3_execute 195 = .ok (.aload_n 0, 1) := by decide +kernel
theorem dX3_execute_196 : decode cX3_execute 196 = .ok (.getfield 16, 3) := by decide +kernel
theorem dX3_execute_199 : decode cX3_execute 199 = .ok (.invokevirtual 75, 3) := by decide +kernel
theorem dX3_execute_202 : decode cX3_execute 202 = .ok (.aload_n 0, 1) := by decide +kernel
theorem dX3_execute_203 : decode cX3_execute 203 = .ok (.getfield 32, 3) := by decide +kernel
theorem dX3_execute_206 : decode cX3_execute 206 = .ok (.getfield 279, 3) := by decide +kernel
theorem dX3_execute_209 : decode cX3_execute 209 = .ok (.ireturn, 1) := by decide +kernel
theorem dX3_syntaxErrorOffset_0 : decode cX3_syntaxErrorOffset 0 = .ok (.aload_n 0, 1) := by decide +kernel
theorem dX3_syntaxErrorOffset_1 : decode cX3_syntaxErrorOffset 1 = .ok (.getfield 47, 3) := by decide +kernel
theorem dX3_syntaxErrorOffset_4 : decode cX3_syntaxErrorOffset 4 = .ok (.iconst (-1), 1) := by decide +kernel
theorem dX3_syntaxErrorOffset_5 : decode cX3_syntaxErrorOffset 5 = .ok (.if_icmp .ne 14, 3) := by decide +kernel
theorem dX3_syntaxErrorOffset_8 : decode cX3_syntaxErrorOffset 8 = .ok (.new 96, 3) := by decide +kernel
theorem dX3_syntaxErrorOffset_11 : decode cX3_syntaxErrorOffset 11 = .ok (.dup, 1) := by decide +kernel
theorem dX3_syntaxErrorOffset_12 : decode cX3_syntaxErrorOffset 12 = .ok (.ldc_w 310, 3) := by decide +kernel
theorem dX3_syntaxErrorOffset_15 : decode cX3_syntaxErrorOffset 15 = .ok (.invokespecial 100, 3) := by decide +kernel
theorem dX3_syntaxErrorOffset_18 : decode cX3_syntaxErrorOffset 18 = .ok (.athrow, 1) := by decide +kernel
theorem dX3_syntaxErrorOffset_19 : decode cX3_syntaxErrorOffset 19 = .ok (.aload_n 0, 1) := by decide +kernel
theorem dX3_syntaxErrorOffset_20 : decode cX3_syntaxErrorOffset 20 = .ok (.getfield 47, 3) := by decide +kernel
theorem dX3_syntaxErrorOffset_23 : decode cX3_syntaxErrorOffset 23 = .ok (.ireturn, 1) := by decide +kernel
theorem dX3_requireRejection_0 : decode cX3_requireRejection 0 = .ok (.aload_n 0, 1) := by decide +kernel
theorem dX3_requireRejection_1 : decode cX3_requireRejection 1 = .ok (.getfield 51, 3) := by decide +kernel
theorem dX3_requireRejection_4 : decode cX3_requireRejection 4 = .ok (.ifCond .ne 14, 3) := by decide +kernel
theorem dX3_requireRejection_7 : decode cX3_requireRejection 7 = .ok (.new 96, 3) := by decide +kernel
theorem dX3_requireRejection_10 : decode cX3_requireRejection 10 = .ok (.dup, 1) := by decide +kernel
theorem dX3_requireRejection_11 : decode cX3_requireRejection 11 = .ok (.ldc_w 355, 3) := by decide +kernel
theorem dX3_requireRejection_14 : decode cX3_requireRejection 14 = .ok (.invokespecial 100, 3) := by decide +kernel
theorem dX3_requireRejection_17 : decode cX3_requireRejection 17 = .ok (.athrow, 1) := by decide +kernel
theorem dX3_requireRejection_18 : decode cX3_requireRejection 18 = .ok (.return_, 1) := by decide +kernel
theorem dX3_rejectionReason_0 : decode cX3_rejectionReason 0 = .ok (.aload_n 0, 1) := by decide +kernel
theorem dX3_rejectionReason_1 : decode cX3_rejectionReason 1 = .ok (.invokevirtual 312, 3) := by decide +kernel
theorem dX3_rejectionReason_4 : decode cX3_rejectionReason 4 = .ok (.aload_n 0, 1) := by decide +kernel
theorem dX3_rejectionReason_5 : decode cX3_rejectionReason 5 = .ok (.getfield 51, 3) := by decide +kernel
theorem dX3_rejectionReason_8 : decode cX3_rejectionReason 8 = .ok (.ireturn, 1) := by decide +kernel
theorem dX3_rejectionDetail_0 : decode cX3_rejectionDetail 0 = .ok (.aload_n 0, 1) := by decide +kernel
theorem dX3_rejectionDetail_1 : decode cX3_rejectionDetail 1 = .ok (.invokevirtual 312, 3) := by decide +kernel
theorem dX3_rejectionDetail_4 : decode cX3_rejectionDetail 4 = .ok (.aload_n 0, 1) := by decide +kernel
theorem dX3_rejectionDetail_5 : decode cX3_rejectionDetail 5 = .ok (.getfield 54, 3) := by decide +kernel
theorem dX3_rejectionDetail_8 : decode cX3_rejectionDetail 8 = .ok (.ireturn, 1) := by decide +kernel
theorem dX3_causeReason_0 : decode cX3_causeReason 0 = .ok (.aload_n 0, 1) := by decide +kernel
theorem dX3_causeReason_1 : decode cX3_causeReason 1 = .ok (.getfield 51, 3) := by decide +kernel
theorem dX3_causeReason_4 : decode cX3_causeReason 4 = .ok (.bipush 10, 2) := by decide +kernel
theorem dX3_causeReason_6 : decode cX3_causeReason 6 = .ok (.if_icmp .eq 14, 3) := by decide +kernel
theorem dX3_causeReason_9 : decode cX3_causeReason 9 = .ok (.new 96, 3) := by decide +kernel
theorem dX3_causeReason_12 : decode cX3_causeReason 12 = .ok (.dup, 1) := by decide +kernel
theorem dX3_causeReason_13 : decode cX3_causeReason 13 = .ok (.ldc_w 315, 3) := by decide +kernel
theorem dX3_causeReason_16 : decode cX3_causeReason 16 = .ok (.invokespecial 100, 3) := by decide +kernel
theorem dX3_causeReason_19 : decode cX3_causeReason 19 = .ok (.athrow, 1) := by decide +kernel
theorem dX3_causeReason_20 : decode cX3_causeReason 20 = .ok (.aload_n 0, 1) := by decide +kernel
theorem dX3_causeReason_21 : decode cX3_causeReason 21 = .ok (.getfield 57, 3) := by decide +kernel
theorem dX3_causeReason_24 : decode cX3_causeReason 24 = .ok (.ireturn, 1) := by decide +kernel
theorem dX3_undo_0 : decode cX3_undo 0 = .ok (.aload_n 0, 1) := by decide +kernel
theorem dX3_undo_1 : decode cX3_undo 1 = .ok (.getfield 25, 3) := by decide +kernel
theorem dX3_undo_4 : decode cX3_undo 4 = .ok (.getfield 317, 3) := by decide +kernel
theorem dX3_undo_7 : decode cX3_undo 7 = .ok (.ifCond .ne 14, 3) := by decide +kernel
theorem dX3_undo_10 : decode cX3_undo 10 = .ok (.new 263, 3) := by decide +kernel
theorem dX3_undo_13 : decode cX3_undo 13 = .ok (.dup, 1) := by decide +kernel
theorem dX3_undo_14 : decode cX3_undo 14 = .ok (.ldc_w 320, 3) := by decide +kernel
theorem dX3_undo_17 : decode cX3_undo 17 = .ok (.invokespecial 267, 3) := by decide +kernel
theorem dX3_undo_20 : decode cX3_undo 20 = .ok (.athrow, 1) := by decide +kernel
theorem dX3_undo_21 : decode cX3_undo 21 = .ok (.aload_n 0, 1) := by decide +kernel
theorem dX3_undo_22 : decode cX3_undo 22 = .ok (.getfield 25, 3) := by decide +kernel
theorem dX3_undo_25 : decode cX3_undo 25 = .ok (.aload_n 0, 1) := by decide +kernel
theorem dX3_undo_26 : decode cX3_undo 26 = .ok (.getfield 10, 3) := by decide +kernel
theorem dX3_undo_29 : decode cX3_undo 29 = .ok (.invokevirtual 322, 3) := by decide +kernel
theorem dX3_undo_32 : decode cX3_undo 32 = .ok (.aload_n 0, 1) := by decide +kernel
theorem dX3_undo_33 : decode cX3_undo 33 = .ok (.getfield 25, 3) := by decide +kernel
theorem dX3_undo_36 : decode cX3_undo 36 = .ok (.getfield 317, 3) := by decide +kernel
theorem dX3_undo_39 : decode cX3_undo 39 = .ok (.ireturn, 1) := by decide +kernel
theorem dX3_undoCount_0 : decode cX3_undoCount 0 = .ok (.aload_n 0, 1) := by decide +kernel
theorem dX3_undoCount_1 : decode cX3_undoCount 1 = .ok (.getfield 25, 3) := by decide +kernel
theorem dX3_undoCount_4 : decode cX3_undoCount 4 = .ok (.getfield 317, 3) := by decide +kernel
theorem dX3_undoCount_7 : decode cX3_undoCount 7 = .ok (.ireturn, 1) := by decide +kernel
theorem dX3_saveSnapshot_0 : decode cX3_saveSnapshot 0 = .ok (.aload_n 0, 1) := by decide +kernel
theorem dX3_saveSnapshot_1 : decode cX3_saveSnapshot 1 = .ok (.getfield 19, 3) := by decide +kernel
theorem dX3_saveSnapshot_4 : decode cX3_saveSnapshot 4 = .ok (.aload_n 0, 1) := by decide +kernel
theorem dX3_saveSnapshot_5 : decode cX3_saveSnapshot 5 = .ok (.getfield 10, 3) := by decide +kernel
theorem dX3_saveSnapshot_8 : decode cX3_saveSnapshot 8 = .ok (.invokevirtual 276, 3) := by decide +kernel
theorem dX3_saveSnapshot_11 : decode cX3_saveSnapshot 11 = .ok (.aload_n 0, 1) := by decide +kernel
theorem dX3_saveSnapshot_12 : decode cX3_saveSnapshot 12 = .ok (.iconst 1, 1) := by decide +kernel
theorem dX3_saveSnapshot_13 : decode cX3_saveSnapshot 13 = .ok (.putfield 43, 3) := by decide +kernel
theorem dX3_saveSnapshot_16 : decode cX3_saveSnapshot 16 = .ok (.aload_n 0, 1) := by decide +kernel
theorem dX3_saveSnapshot_17 : decode cX3_saveSnapshot 17 = .ok (.getfield 10, 3) := by decide +kernel
theorem dX3_saveSnapshot_20 : decode cX3_saveSnapshot 20 = .ok (.getfield 178, 3) := by decide +kernel
theorem dX3_saveSnapshot_23 : decode cX3_saveSnapshot 23 = .ok (.ireturn, 1) := by decide +kernel
theorem dX3_restoreSnapshot_0 : decode cX3_restoreSnapshot 0 = .ok (.aload_n 0, 1) := by decide +kernel
theorem dX3_restoreSnapshot_1 : decode cX3_restoreSnapshot 1 = .ok (.getfield 43, 3) := by decide +kernel
theorem dX3_restoreSnapshot_4 : decode cX3_restoreSnapshot 4 = .ok (.ifCond .ne 14, 3) := by decide +kernel
theorem dX3_restoreSnapshot_7 : decode cX3_restoreSnapshot 7 = .ok (.new 263, 3) := by decide +kernel
theorem dX3_restoreSnapshot_10 : decode cX3_restoreSnapshot 10 = .ok (.dup, 1) := by decide +kernel
theorem dX3_restoreSnapshot_11 : decode cX3_restoreSnapshot 11 = .ok (.ldc_w 325, 3) := by decide +kernel
theorem dX3_restoreSnapshot_14 : decode cX3_restoreSnapshot 14 = .ok (.invokespecial 267, 3) := by decide +kernel
theorem dX3_restoreSnapshot_17 : decode cX3_restoreSnapshot 17 = .ok (.athrow, 1) := by decide +kernel
theorem dX3_restoreSnapshot_18 : decode cX3_restoreSnapshot 18 = .ok (.aload_n 0, 1) := by decide +kernel
theorem dX3_restoreSnapshot_19 : decode cX3_restoreSnapshot 19 = .ok (.getfield 10, 3) := by decide +kernel
theorem dX3_restoreSnapshot_22 : decode cX3_restoreSnapshot 22 = .ok (.aload_n 0, 1) := by decide +kernel
theorem dX3_restoreSnapshot_23 : decode cX3_restoreSnapshot 23 = .ok (.getfield 19, 3) := by decide +kernel
theorem dX3_restoreSnapshot_26 : decode cX3_restoreSnapshot 26 = .ok (.invokevirtual 276, 3) := by decide +kernel
theorem dX3_restoreSnapshot_29 : decode cX3_restoreSnapshot 29 = .ok (.aload_n 0, 1) := by decide +kernel
theorem dX3_restoreSnapshot_30 : decode cX3_restoreSnapshot 30 = .ok (.getfield 25, 3) := by decide +kernel
theorem dX3_restoreSnapshot_33 : decode cX3_restoreSnapshot 33 = .ok (.invokevirtual 327, 3) := by decide +kernel
theorem dX3_restoreSnapshot_36 : decode cX3_restoreSnapshot 36 = .ok (.aload_n 0, 1) := by decide +kernel
theorem dX3_restoreSnapshot_37 : decode cX3_restoreSnapshot 37 = .ok (.getfield 10, 3) := by decide +kernel
theorem dX3_restoreSnapshot_40 : decode cX3_restoreSnapshot 40 = .ok (.getfield 178, 3) := by decide +kernel
theorem dX3_restoreSnapshot_43 : decode cX3_restoreSnapshot 43 = .ok (.ireturn, 1) := by decide +kernel
