abbrev cX0_hasPage : ByteArray := prog_2_method_3_code
def yX0_hasPage : MethodName := ⟨RX0, "hasPage", "(I)Z"⟩
abbrev cX0_hasChapter : ByteArray := prog_2_method_4_code
def yX0_hasChapter : MethodName := ⟨RX0, "hasChapter", "(I)Z"⟩
abbrev cX0_takesWeight : ByteArray := prog_2_method_5_code
def yX0_takesWeight : MethodName := ⟨RX0, "takesWeight", "(I)Z"⟩
abbrev cX0_takesCount : ByteArray := prog_2_method_6_code
def yX0_takesCount : MethodName := ⟨RX0, "takesCount", "(I)Z"⟩
abbrev cX0_hasSeat : ByteArray := prog_2_method_7_code
def yX0_hasSeat : MethodName := ⟨RX0, "hasSeat", "(I)Z"⟩
abbrev cX0_slotWithId : ByteArray := prog_2_method_8_code
def yX0_slotWithId : MethodName := ⟨RX0, "slotWithId", "(I)I"⟩
abbrev cX0_slotOnPage : ByteArray := prog_2_method_9_code
def yX0_slotOnPage : MethodName := ⟨RX0, "slotOnPage", "(I)I"⟩
abbrev cX0_slotInSeat : ByteArray := prog_2_method_10_code
def yX0_slotInSeat : MethodName := ⟨RX0, "slotInSeat", "(I)I"⟩
abbrev cX0_slotFrom : ByteArray := prog_2_method_11_code
def yX0_slotFrom : MethodName := ⟨RX0, "slotFrom", "(I)I"⟩
abbrev cX0_slotUpTo : ByteArray := prog_2_method_12_code
def yX0_slotUpTo : MethodName := ⟨RX0, "slotUpTo", "(I)I"⟩
abbrev cX0_slotNearest : ByteArray := prog_2_method_13_code
def yX0_slotNearest : MethodName := ⟨RX0, "slotNearest", "(I)I"⟩
abbrev cX0_isAhead : ByteArray := prog_2_method_16_code
def yX0_isAhead : MethodName := ⟨RX0, "isAhead", "(II)Z"⟩
abbrev cX0_rankOf : ByteArray := prog_2_method_15_code
def yX0_rankOf : MethodName := ⟨RX0, "rankOf", "(I)I"⟩
abbrev cX0_slotOfRank : ByteArray := prog_2_method_14_code
def yX0_slotOfRank : MethodName := ⟨RX0, "slotOfRank", "(I)I"⟩
abbrev cX0_freeSeat : ByteArray := prog_2_method_17_code
def yX0_freeSeat : MethodName := ⟨RX0, "freeSeat", "()I"⟩
abbrev cX0_chapterWith : ByteArray := prog_2_method_18_code
def yX0_chapterWith : MethodName := ⟨RX0, "chapterWith", "(I)I"⟩
abbrev cX0_endOf : ByteArray := prog_2_method_19_code
def yX0_endOf : MethodName := ⟨RX0, "endOf", "(I)I"⟩
abbrev cX0_isIn : ByteArray := prog_2_method_20_code
def yX0_isIn : MethodName := ⟨RX0, "isIn", "(II)Z"⟩
abbrev cX0_heldPageByPage : ByteArray := prog_2_method_21_code
def yX0_heldPageByPage : MethodName := ⟨RX0, "heldPageByPage", "(I)I"⟩
abbrev cX0_heldMarkByMark : ByteArray := prog_2_method_22_code
def yX0_heldMarkByMark : MethodName := ⟨RX0, "heldMarkByMark", "(I)I"⟩
abbrev cX0_weightIn : ByteArray := prog_2_method_23_code
def yX0_weightIn : MethodName := ⟨RX0, "weightIn", "(I)I"⟩
abbrev cX0_favour : ByteArray := prog_2_method_24_code
def yX0_favour : MethodName := ⟨RX0, "favour", "(I)I"⟩
abbrev cX0_against : ByteArray := prog_2_method_25_code
def yX0_against : MethodName := ⟨RX0, "against", "(I)I"⟩
abbrev cX0_weightOfAll : ByteArray := prog_2_method_29_code
def yX0_weightOfAll : MethodName := ⟨RX0, "weightOfAll", "()I"⟩
abbrev cX0_againstByTotal : ByteArray := prog_2_method_26_code
def yX0_againstByTotal : MethodName := ⟨RX0, "againstByTotal", "(I)I"⟩
abbrev cX0_wouldCarry : ByteArray := prog_2_method_27_code
def yX0_wouldCarry : MethodName := ⟨RX0, "wouldCarry", "(I)Z"⟩
abbrev cX0_heaviest : ByteArray := prog_2_method_28_code
def yX0_heaviest : MethodName := ⟨RX0, "heaviest", "()I"⟩
abbrev cX0_weightOfKind : ByteArray := prog_2_method_30_code
def yX0_weightOfKind : MethodName := ⟨RX0, "weightOfKind", "(Z)I"⟩
abbrev cX0_ribbons : ByteArray := prog_2_method_31_code
def yX0_ribbons : MethodName := ⟨RX0, "ribbons", "()I"⟩
abbrev cX0_spanStepByStep : ByteArray := prog_2_method_32_code
def yX0_spanStepByStep : MethodName := ⟨RX0, "spanStepByStep", "()I"⟩
abbrev cX0_spanEndToEnd : ByteArray := prog_2_method_33_code
def yX0_spanEndToEnd : MethodName := ⟨RX0, "spanEndToEnd", "()I"⟩
abbrev cX0_chapterWaysAgree : ByteArray := prog_2_method_34_code
def yX0_chapterWaysAgree : MethodName := ⟨RX0, "chapterWaysAgree", "()Z"⟩
abbrev cX0_pagesDiffer : ByteArray := prog_2_method_35_code
def yX0_pagesDiffer : MethodName := ⟨RX0, "pagesDiffer", "()Z"⟩
abbrev cX0_seatsDiffer : ByteArray := prog_2_method_36_code
def yX0_seatsDiffer : MethodName := ⟨RX0, "seatsDiffer", "()Z"⟩
def yX0_accepts : MethodName := ⟨RX0, "accepts", "(CII)Z"⟩
abbrev cX0_reasonAgainstRibbon : ByteArray := prog_2_method_39_code
def yX0_reasonAgainstRibbon : MethodName := ⟨RX0, "reasonAgainstRibbon", "(I)I"⟩
abbrev cX0_reasonAgainstEar : ByteArray := prog_2_method_40_code
def yX0_reasonAgainstEar : MethodName := ⟨RX0, "reasonAgainstEar", "(I)I"⟩
abbrev cX0_isRibbonId : ByteArray := prog_2_method_44_code
def yX0_isRibbonId : MethodName := ⟨RX0, "isRibbonId", "(I)Z"⟩
abbrev cX0_reasonAgainstMove : ByteArray := prog_2_method_41_code
def yX0_reasonAgainstMove : MethodName := ⟨RX0, "reasonAgainstMove", "(II)I"⟩
abbrev cX0_reasonAgainstSwap : ByteArray := prog_2_method_42_code
def yX0_reasonAgainstSwap : MethodName := ⟨RX0, "reasonAgainstSwap", "(II)I"⟩
abbrev cX0_reasonAgainstStart : ByteArray := prog_2_method_43_code
def yX0_reasonAgainstStart : MethodName := ⟨RX0, "reasonAgainstStart", "(I)I"⟩
abbrev cX0_reasonAgainst : ByteArray := prog_2_method_38_code
def yX0_reasonAgainst : MethodName := ⟨RX0, "reasonAgainst", "(CII)I"⟩
abbrev cX0_idOnPage : ByteArray := prog_2_method_46_code
def yX0_idOnPage : MethodName := ⟨RX0, "idOnPage", "(I)I"⟩
abbrev cX0_detailOf : ByteArray := prog_2_method_45_code
def yX0_detailOf : MethodName := ⟨RX0, "detailOf", "(ICII)I"⟩
abbrev cX0_copySlot : ByteArray := prog_2_method_54_code
def yX0_copySlot : MethodName := ⟨RX0, "copySlot", "(II)V"⟩
abbrev cX0_insert : ByteArray := prog_2_method_52_code
def yX0_insert : MethodName := ⟨RX0, "insert", "(IIIII)V"⟩
abbrev cX0_add : ByteArray := prog_2_method_48_code
def yX0_add : MethodName := ⟨RX0, "add", "(III)I"⟩
abbrev cX0_takeOut : ByteArray := prog_2_method_53_code
def yX0_takeOut : MethodName := ⟨RX0, "takeOut", "(I)V"⟩
abbrev cX0_remove : ByteArray := prog_2_method_49_code
def yX0_remove : MethodName := ⟨RX0, "remove", "(I)I"⟩
abbrev cX0_move : ByteArray := prog_2_method_50_code
def yX0_move : MethodName := ⟨RX0, "move", "(II)I"⟩
abbrev cX0_swap : ByteArray := prog_2_method_51_code
def yX0_swap : MethodName := ⟨RX0, "swap", "(II)I"⟩
abbrev cX0_start : ByteArray := prog_2_method_55_code
def yX0_start : MethodName := ⟨RX0, "start", "(I)I"⟩
abbrev cX0_removeEarsIn : ByteArray := prog_2_method_57_code
def yX0_removeEarsIn : MethodName := ⟨RX0, "removeEarsIn", "(I)V"⟩
abbrev cX0_dropStart : ByteArray := prog_2_method_58_code
def yX0_dropStart : MethodName := ⟨RX0, "dropStart", "(I)V"⟩
abbrev cX0_vote : ByteArray := prog_2_method_56_code
def yX0_vote : MethodName := ⟨RX0, "vote", "(I)Z"⟩
abbrev cX0_isEarOnTheWay : ByteArray := prog_2_method_61_code
def yX0_isEarOnTheWay : MethodName := ⟨RX0, "isEarOnTheWay", "(IIZ)Z"⟩
abbrev cX0_turn : ByteArray := prog_2_method_59_code
def yX0_turn : MethodName := ⟨RX0, "turn", "(IZ)I"⟩
abbrev cX0_carryOut : ByteArray := prog_2_method_47_code
def yX0_carryOut : MethodName := ⟨RX0, "carryOut", "(CII)I"⟩
abbrev cX0_earsAboutToFall : ByteArray := prog_2_method_60_code
def yX0_earsAboutToFall : MethodName := ⟨RX0, "earsAboutToFall", "(IZ)I"⟩
abbrev cX0_copyFrom : ByteArray := prog_2_method_2_code
def yX0_copyFrom : MethodName := ⟨RX0, "copyFrom", "(LBookmarkManager$Book;)V"⟩
def yX2_append : MethodName := ⟨RX2, "append", "(C)I"⟩
def yX2_takesDigitLast : MethodName := ⟨RX2, "takesDigitLast", "(C)Z"⟩
def yX2_hasSecond : MethodName := ⟨RX2, "hasSecond", "(C)Z"⟩
def yX2_isKind : MethodName := ⟨RX2, "isKind", "(C)Z"⟩
def yX2_readDigit : MethodName := ⟨RX2, "readDigit", "()I"⟩
def yX2_readNumber : MethodName := ⟨RX2, "readNumber", "()I"⟩
def yX2_skip : MethodName := ⟨RX2, "skip", "(C)Z"⟩
def yX2_readCommand : MethodName := ⟨RX2, "readCommand", "(I)Z"⟩
def yX2_readCommands : MethodName := ⟨RX2, "readCommands", "()I"⟩
def yX2_takeCommands : MethodName := ⟨RX2, "takeCommands", "()I"⟩
abbrev cX1_remember : ByteArray := prog_3_method_2_code
def yX1_remember : MethodName := ⟨RX1, "remember", "(LBookmarkManager$Book;)V"⟩
def yX1_bringBackTo : MethodName := ⟨RX1, "bringBackTo", "(LBookmarkManager$Book;)V"⟩
def yX1_forget : MethodName := ⟨RX1, "forget", "()V"⟩
abbrev cX3_requirePage : ByteArray := prog_1_method_63_code
def yX3_requirePage : MethodName := ⟨RX3, "requirePage", "(I)V"⟩
abbrev cX3_requireWeight : ByteArray := prog_1_method_64_code
def yX3_requireWeight : MethodName := ⟨RX3, "requireWeight", "(I)V"⟩
abbrev cX3_noteRejection : ByteArray := prog_1_method_71_code
def yX3_noteRejection : MethodName := ⟨RX3, "noteRejection", "(III)V"⟩
abbrev cX3_changeUnlessRejected : ByteArray := prog_1_method_70_code
def yX3_changeUnlessRejected : MethodName := ⟨RX3, "changeUnlessRejected", "(CII)I"⟩
abbrev cX3_addRibbon : ByteArray := prog_1_method_2_code
def yX3_addRibbon : MethodName := ⟨RX3, "addRibbon", "(II)I"⟩
abbrev cX3_addDogEar : ByteArray := prog_1_method_3_code
def yX3_addDogEar : MethodName := ⟨RX3, "addDogEar", "(II)I"⟩
abbrev cX3_requireMark : ByteArray := prog_1_method_67_code
def yX3_requireMark : MethodName := ⟨RX3, "requireMark", "(I)I"⟩
abbrev cX3_removeMark : ByteArray := prog_1_method_4_code
def yX3_removeMark : MethodName := ⟨RX3, "removeMark", "(I)I"⟩
abbrev cX3_moveRibbon : ByteArray := prog_1_method_5_code
def yX3_moveRibbon : MethodName := ⟨RX3, "moveRibbon", "(II)I"⟩
abbrev cX3_swapSeats : ByteArray := prog_1_method_6_code
def yX3_swapSeats : MethodName := ⟨RX3, "swapSeats", "(II)I"⟩
abbrev cX3_isRibbon : ByteArray := prog_1_method_7_code
def yX3_isRibbon : MethodName := ⟨RX3, "isRibbon", "(I)Z"⟩
abbrev cX3_pageOf : ByteArray := prog_1_method_8_code
def yX3_pageOf : MethodName := ⟨RX3, "pageOf", "(I)I"⟩
abbrev cX3_weightOf : ByteArray := prog_1_method_9_code
def yX3_weightOf : MethodName := ⟨RX3, "weightOf", "(I)I"⟩
abbrev cX3_wearOf : ByteArray := prog_1_method_10_code
def yX3_wearOf : MethodName := ⟨RX3, "wearOf", "(I)I"⟩
abbrev cX3_seatOf : ByteArray := prog_1_method_11_code
def yX3_seatOf : MethodName := ⟨RX3, "seatOf", "(I)I"⟩
abbrev cX3_idOfFound : ByteArray := prog_1_method_69_code
def yX3_idOfFound : MethodName := ⟨RX3, "idOfFound", "(I)I"⟩
abbrev cX3_ribbonIn : ByteArray := prog_1_method_12_code
def yX3_ribbonIn : MethodName := ⟨RX3, "ribbonIn", "(I)I"⟩
abbrev cX3_isHeld : ByteArray := prog_1_method_13_code
def yX3_isHeld : MethodName := ⟨RX3, "isHeld", "(I)Z"⟩
abbrev cX3_markOn : ByteArray := prog_1_method_14_code
def yX3_markOn : MethodName := ⟨RX3, "markOn", "(I)I"⟩
abbrev cX3_nextMark : ByteArray := prog_1_method_15_code
def yX3_nextMark : MethodName := ⟨RX3, "nextMark", "(I)I"⟩
abbrev cX3_previousMark : ByteArray := prog_1_method_16_code
def yX3_previousMark : MethodName := ⟨RX3, "previousMark", "(I)I"⟩
abbrev cX3_nearestMark : ByteArray := prog_1_method_17_code
def yX3_nearestMark : MethodName := ⟨RX3, "nearestMark", "(I)I"⟩
abbrev cX3_chapterOf : ByteArray := prog_1_method_18_code
def yX3_chapterOf : MethodName := ⟨RX3, "chapterOf", "(I)I"⟩
abbrev cX3_startChapter : ByteArray := prog_1_method_19_code
def yX3_startChapter : MethodName := ⟨RX3, "startChapter", "(I)I"⟩
abbrev cX3_requireChapter : ByteArray := prog_1_method_66_code
def yX3_requireChapter : MethodName := ⟨RX3, "requireChapter", "(I)V"⟩
abbrev cX3_voteToDissolve : ByteArray := prog_1_method_20_code
def yX3_voteToDissolve : MethodName := ⟨RX3, "voteToDissolve", "(I)Z"⟩
abbrev cX3_firstPage : ByteArray := prog_1_method_21_code
def yX3_firstPage : MethodName := ⟨RX3, "firstPage", "(I)I"⟩
abbrev cX3_lastPage : ByteArray := prog_1_method_22_code
def yX3_lastPage : MethodName := ⟨RX3, "lastPage", "(I)I"⟩
abbrev cX3_heldPages : ByteArray := prog_1_method_23_code
def yX3_heldPages : MethodName := ⟨RX3, "heldPages", "(I)I"⟩
abbrev cX3_heldPagesByMarks : ByteArray := prog_1_method_24_code
def yX3_heldPagesByMarks : MethodName := ⟨RX3, "heldPagesByMarks", "(I)I"⟩
abbrev cX3_chapterWeight : ByteArray := prog_1_method_25_code
def yX3_chapterWeight : MethodName := ⟨RX3, "chapterWeight", "(I)I"⟩
abbrev cX3_weightInFavour : ByteArray := prog_1_method_26_code
def yX3_weightInFavour : MethodName := ⟨RX3, "weightInFavour", "(I)I"⟩
abbrev cX3_weightAgainst : ByteArray := prog_1_method_27_code
def yX3_weightAgainst : MethodName := ⟨RX3, "weightAgainst", "(I)I"⟩
abbrev cX3_weightAgainstByTotal : ByteArray := prog_1_method_28_code
def yX3_weightAgainstByTotal : MethodName := ⟨RX3, "weightAgainstByTotal", "(I)I"⟩
abbrev cX3_wouldDissolve : ByteArray := prog_1_method_29_code
def yX3_wouldDissolve : MethodName := ⟨RX3, "wouldDissolve", "(I)Z"⟩
abbrev cX3_heaviestChapter : ByteArray := prog_1_method_30_code
def yX3_heaviestChapter : MethodName := ⟨RX3, "heaviestChapter", "()I"⟩
abbrev cX3_requireCount : ByteArray := prog_1_method_65_code
def yX3_requireCount : MethodName := ⟨RX3, "requireCount", "(I)V"⟩
abbrev cX3_turnPages : ByteArray := prog_1_method_31_code
def yX3_turnPages : MethodName := ⟨RX3, "turnPages", "(IZ)I"⟩
abbrev cX3_currentPage : ByteArray := prog_1_method_32_code
def yX3_currentPage : MethodName := ⟨RX3, "currentPage", "()I"⟩
abbrev cX3_pagesToNextMark : ByteArray := prog_1_method_33_code
def yX3_pagesToNextMark : MethodName := ⟨RX3, "pagesToNextMark", "()I"⟩
abbrev cX3_earsAtRisk : ByteArray := prog_1_method_34_code
def yX3_earsAtRisk : MethodName := ⟨RX3, "earsAtRisk", "(IZ)I"⟩
abbrev cX3_markByPage : ByteArray := prog_1_method_35_code
def yX3_markByPage : MethodName := ⟨RX3, "markByPage", "(I)I"⟩
abbrev cX3_markByWeight : ByteArray := prog_1_method_36_code
def yX3_markByWeight : MethodName := ⟨RX3, "markByWeight", "(I)I"⟩
abbrev cX3_span : ByteArray := prog_1_method_37_code
def yX3_span : MethodName := ⟨RX3, "span", "()I"⟩
abbrev cX3_spanByEnds : ByteArray := prog_1_method_38_code
def yX3_spanByEnds : MethodName := ⟨RX3, "spanByEnds", "()I"⟩
abbrev cX3_ribbonWeight : ByteArray := prog_1_method_39_code
def yX3_ribbonWeight : MethodName := ⟨RX3, "ribbonWeight", "()I"⟩
abbrev cX3_dogEarWeight : ByteArray := prog_1_method_40_code
def yX3_dogEarWeight : MethodName := ⟨RX3, "dogEarWeight", "()I"⟩
abbrev cX3_markCount : ByteArray := prog_1_method_41_code
def yX3_markCount : MethodName := ⟨RX3, "markCount", "()I"⟩
abbrev cX3_ribbonCount : ByteArray := prog_1_method_42_code
def yX3_ribbonCount : MethodName := ⟨RX3, "ribbonCount", "()I"⟩
abbrev cX3_chapterCount : ByteArray := prog_1_method_43_code
def yX3_chapterCount : MethodName := ⟨RX3, "chapterCount", "()I"⟩
abbrev cX3_votesHeld : ByteArray := prog_1_method_44_code
def yX3_votesHeld : MethodName := ⟨RX3, "votesHeld", "()I"⟩
abbrev cX3_motionsCarried : ByteArray := prog_1_method_45_code
def yX3_motionsCarried : MethodName := ⟨RX3, "motionsCarried", "()I"⟩
def yX3_fallenEars : MethodName := ⟨RX3, "fallenEars", "()I"⟩
abbrev cX3_isConsistent : ByteArray := prog_1_method_49_code
def yX3_isConsistent : MethodName := ⟨RX3, "isConsistent", "()Z"⟩
def yX3_appendInput : MethodName := ⟨RX3, "appendInput", "(C)I"⟩
def yX3_execute : MethodName := ⟨RX3, "execute", "()I"⟩
def yX3_syntaxErrorOffset : MethodName := ⟨RX3, "syntaxErrorOffset", "()I"⟩
abbrev cX3_requireRejection : ByteArray := prog_1_method_68_code
def yX3_requireRejection : MethodName := ⟨RX3, "requireRejection", "()V"⟩
abbrev cX3_rejectionReason : ByteArray := prog_1_method_56_code
def yX3_rejectionReason : MethodName := ⟨RX3, "rejectionReason", "()I"⟩
def yX3_rejectionDetail : MethodName := ⟨RX3, "rejectionDetail", "()I"⟩
def yX3_causeReason : MethodName := ⟨RX3, "causeReason", "()I"⟩
def yX3_undo : MethodName := ⟨RX3, "undo", "()I"⟩
def yX3_undoCount : MethodName := ⟨RX3, "undoCount", "()I"⟩
def yX3_saveSnapshot : MethodName := ⟨RX3, "saveSnapshot", "()I"⟩
def yX3_restoreSnapshot : MethodName := ⟨RX3, "restoreSnapshot", "()I"⟩
theorem dX0_hasPage_0 : decode cX0_hasPage 0 = .ok (.iload_n 1, 1) := by decide +kernel
theorem dX0_hasPage_1 : decode cX0_hasPage 1 = .ok (.ifCond .lt 13, 3) := by decide +kernel
theorem dX0_hasPage_4 : decode cX0_hasPage 4 = .ok (.iload_n 1, 1) := by decide +kernel
theorem dX0_hasPage_5 : decode cX0_hasPage 5 = .ok (.bipush 60, 2) := by decide +kernel
theorem dX0_hasPage_7 : decode cX0_hasPage 7 = .ok (.if_icmp .ge 7, 3) := by decide +kernel
theorem dX0_hasPage_10 : decode cX0_hasPage 10 = .ok (.iconst 1, 1) := by decide +kernel
theorem dX0_hasPage_11 : decode cX0_hasPage 11 = .ok (.goto 4, 3) := by decide +kernel
theorem dX0_hasPage_14 : decode cX0_hasPage 14 = .ok (.iconst 0, 1) := by decide +kernel
theorem dX0_hasPage_15 : decode cX0_hasPage 15 = .ok (.ireturn, 1) := by decide +kernel
theorem dX0_hasChapter_0 : decode cX0_hasChapter 0 = .ok (.iload_n 1, 1) := by decide +kernel
theorem dX0_hasChapter_1 : decode cX0_hasChapter 1 = .ok (.ifCond .lt 15, 3) := by decide +kernel
theorem dX0_hasChapter_4 : decode cX0_hasChapter 4 = .ok (.iload_n 1, 1) := by decide +kernel
theorem dX0_hasChapter_5 : decode cX0_hasChapter 5 = .ok (.aload_n 0, 1) := by decide +kernel
theorem dX0_hasChapter_6 : decode cX0_hasChapter 6 = .ok (.getfield 34, 3) := by decide +kernel
theorem dX0_hasChapter_9 : decode cX0_hasChapter 9 = .ok (.if_icmp .ge 7, 3) := by decide +kernel
theorem dX0_hasChapter_12 : decode cX0_hasChapter 12 = .ok (.iconst 1, 1) := by decide +kernel
theorem dX0_hasChapter_13 : decode cX0_hasChapter 13 = .ok (.goto 4, 3) := by decide +kernel
theorem dX0_hasChapter_16 : decode cX0_hasChapter 16 = .ok (.iconst 0, 1) := by decide +kernel
theorem dX0_hasChapter_17 : decode cX0_hasChapter 17 = .ok (.ireturn, 1) := by decide +kernel
theorem dX0_takesWeight_0 : decode cX0_takesWeight 0 = .ok (.iload_n 1, 1) := by decide +kernel
theorem dX0_takesWeight_1 : decode cX0_takesWeight 1 = .ok (.iconst 1, 1) := by decide +kernel
theorem dX0_takesWeight_2 : decode cX0_takesWeight 2 = .ok (.if_icmp .lt 13, 3) := by decide +kernel
theorem dX0_takesWeight_5 : decode cX0_takesWeight 5 = .ok (.iload_n 1, 1) := by decide +kernel
theorem dX0_takesWeight_6 : decode cX0_takesWeight 6 = .ok (.bipush 9, 2) := by decide +kernel
theorem dX0_takesWeight_8 : decode cX0_takesWeight 8 = .ok (.if_icmp .gt 7, 3) := by decide +kernel
theorem dX0_takesWeight_11 : decode cX0_takesWeight 11 = .ok (.iconst 1, 1) := by decide +kernel
theorem dX0_takesWeight_12 : decode cX0_takesWeight 12 = .ok (.goto 4, 3) := by decide +kernel
theorem dX0_takesWeight_15 : decode cX0_takesWeight 15 = .ok (.iconst 0, 1) := by decide +kernel
theorem dX0_takesWeight_16 : decode cX0_takesWeight 16 = .ok (.ireturn, 1) := by decide +kernel
theorem dX0_takesCount_0 : decode cX0_takesCount 0 = .ok (.iload_n 1, 1) := by decide +kernel
theorem dX0_takesCount_1 : decode cX0_takesCount 1 = .ok (.iconst 1, 1) := by decide +kernel
theorem dX0_takesCount_2 : decode cX0_takesCount 2 = .ok (.if_icmp .lt 13, 3) := by decide +kernel
theorem dX0_takesCount_5 : decode cX0_takesCount 5 = .ok (.iload_n 1, 1) := by decide +kernel
theorem dX0_takesCount_6 : decode cX0_takesCount 6 = .ok (.bipush 20, 2) := by decide +kernel
theorem dX0_takesCount_8 : decode cX0_takesCount 8 = .ok (.if_icmp .gt 7, 3) := by decide +kernel
theorem dX0_takesCount_11 : decode cX0_takesCount 11 = .ok (.iconst 1, 1) := by decide +kernel
theorem dX0_takesCount_12 : decode cX0_takesCount 12 = .ok (.goto 4, 3) := by decide +kernel
theorem dX0_takesCount_15 : decode cX0_takesCount 15 = .ok (.iconst 0, 1) := by decide +kernel
theorem dX0_takesCount_16 : decode cX0_takesCount 16 = .ok (.ireturn, 1) := by decide +kernel
theorem dX0_hasSeat_0 : decode cX0_hasSeat 0 = .ok (.aload_n 0, 1) := by decide +kernel
theorem dX0_hasSeat_1 : decode cX0_hasSeat 1 = .ok (.getfield 24, 3) := by decide +kernel
theorem dX0_hasSeat_4 : decode cX0_hasSeat 4 = .ok (.iload_n 1, 1) := by decide +kernel
theorem dX0_hasSeat_5 : decode cX0_hasSeat 5 = .ok (.iaload, 1) := by decide +kernel
theorem dX0_hasSeat_6 : decode cX0_hasSeat 6 = .ok (.iconst (-1), 1) := by decide +kernel
theorem dX0_hasSeat_7 : decode cX0_hasSeat 7 = .ok (.if_icmp .eq 7, 3) := by decide +kernel
theorem dX0_hasSeat_10 : decode cX0_hasSeat 10 = .ok (.iconst 1, 1) := by decide +kernel
theorem dX0_hasSeat_11 : decode cX0_hasSeat 11 = .ok (.goto 4, 3) := by decide +kernel
theorem dX0_hasSeat_14 : decode cX0_hasSeat 14 = .ok (.iconst 0, 1) := by decide +kernel
theorem dX0_hasSeat_15 : decode cX0_hasSeat 15 = .ok (.ireturn, 1) := by decide +kernel
theorem dX0_slotWithId_0 : decode cX0_slotWithId 0 = .ok (.iconst 0, 1) := by decide +kernel
theorem dX0_slotWithId_1 : decode cX0_slotWithId 1 = .ok (.istore_n 2, 1) := by decide +kernel
theorem dX0_slotWithId_2 : decode cX0_slotWithId 2 = .ok (.iload_n 2, 1) := by decide +kernel
theorem dX0_slotWithId_3 : decode cX0_slotWithId 3 = .ok (.aload_n 0, 1) := by decide +kernel
theorem dX0_slotWithId_4 : decode cX0_slotWithId 4 = .ok (.getfield 30, 3) := by decide +kernel
theorem dX0_slotWithId_7 : decode cX0_slotWithId 7 = .ok (.if_icmp .ge 21, 3) := by decide +kernel
theorem dX0_slotWithId_10 : decode cX0_slotWithId 10 = .ok (.aload_n 0, 1) := by decide +kernel
theorem dX0_slotWithId_11 : decode cX0_slotWithId 11 = .ok (.getfield 9, 3) := by decide +kernel
theorem dX0_slotWithId_14 : decode cX0_slotWithId 14 = .ok (.iload_n 2, 1) := by decide +kernel
theorem dX0_slotWithId_15 : decode cX0_slotWithId 15 = .ok (.iaload, 1) := by decide +kernel
theorem dX0_slotWithId_16 : decode cX0_slotWithId 16 = .ok (.iload_n 1, 1) := by decide +kernel
theorem dX0_slotWithId_17 : decode cX0_slotWithId 17 = .ok (.if_icmp .ne 5, 3) := by decide +kernel
theorem dX0_slotWithId_20 : decode cX0_slotWithId 20 = .ok (.iload_n 2, 1) := by decide +kernel
theorem dX0_slotWithId_21 : decode cX0_slotWithId 21 = .ok (.ireturn, 1) := by decide +kernel
theorem dX0_slotWithId_22 : decode cX0_slotWithId 22 = .ok (.iinc 2 1, 3) := by decide +kernel
theorem dX0_slotWithId_25 : decode cX0_slotWithId 25 = .ok (.goto (-23), 3) := by decide +kernel
theorem dX0_slotWithId_28 : decode cX0_slotWithId 28 = .ok (.iconst (-1), 1) := by decide +kernel
theorem dX0_slotWithId_29 : decode cX0_slotWithId 29 = .ok (.ireturn, 1) := by decide +kernel
theorem dX0_slotOnPage_0 : decode cX0_slotOnPage 0 = .ok (.iconst 0, 1) := by decide +kernel
theorem dX0_slotOnPage_1 : decode cX0_slotOnPage 1 = .ok (.istore_n 2, 1) := by decide +kernel
theorem dX0_slotOnPage_2 : decode cX0_slotOnPage 2 = .ok (.iload_n 2, 1) := by decide +kernel
theorem dX0_slotOnPage_3 : decode cX0_slotOnPage 3 = .ok (.aload_n 0, 1) := by decide +kernel
theorem dX0_slotOnPage_4 : decode cX0_slotOnPage 4 = .ok (.getfield 30, 3) := by decide +kernel
theorem dX0_slotOnPage_7 : decode cX0_slotOnPage 7 = .ok (.if_icmp .ge 21, 3) := by decide +kernel
theorem dX0_slotOnPage_10 : decode cX0_slotOnPage 10 = .ok (.aload_n 0, 1) := by decide +kernel
theorem dX0_slotOnPage_11 : decode cX0_slotOnPage 11 = .ok (.getfield 15, 3) := by decide +kernel
theorem dX0_slotOnPage_14 : decode cX0_slotOnPage 14 = .ok (.iload_n 2, 1) := by decide +kernel
theorem dX0_slotOnPage_15 : decode cX0_slotOnPage 15 = .ok (.iaload, 1) := by decide +kernel
theorem dX0_slotOnPage_16 : decode cX0_slotOnPage 16 = .ok (.iload_n 1, 1) := by decide +kernel
theorem dX0_slotOnPage_17 : decode cX0_slotOnPage 17 = .ok (.if_icmp .ne 5, 3) := by decide +kernel
theorem dX0_slotOnPage_20 : decode cX0_slotOnPage 20 = .ok (.iload_n 2, 1) := by decide +kernel
theorem dX0_slotOnPage_21 : decode cX0_slotOnPage 21 = .ok (.ireturn, 1) := by decide +kernel
theorem dX0_slotOnPage_22 : decode cX0_slotOnPage 22 = .ok (.iinc 2 1, 3) := by decide +kernel
theorem dX0_slotOnPage_25 : decode cX0_slotOnPage 25 = .ok (.goto (-23), 3) := by decide +kernel
theorem dX0_slotOnPage_28 : decode cX0_slotOnPage 28 = .ok (.iconst (-1), 1) := by decide +kernel
theorem dX0_slotOnPage_29 : decode cX0_slotOnPage 29 = .ok (.ireturn, 1) := by decide +kernel
theorem dX0_slotInSeat_0 : decode cX0_slotInSeat 0 = .ok (.iconst 0, 1) := by decide +kernel
theorem dX0_slotInSeat_1 : decode cX0_slotInSeat 1 = .ok (.istore_n 2, 1) := by decide +kernel
theorem dX0_slotInSeat_2 : decode cX0_slotInSeat 2 = .ok (.iload_n 2, 1) := by decide +kernel
theorem dX0_slotInSeat_3 : decode cX0_slotInSeat 3 = .ok (.aload_n 0, 1) := by decide +kernel
theorem dX0_slotInSeat_4 : decode cX0_slotInSeat 4 = .ok (.getfield 30, 3) := by decide +kernel
theorem dX0_slotInSeat_7 : decode cX0_slotInSeat 7 = .ok (.if_icmp .ge 21, 3) := by decide +kernel
theorem dX0_slotInSeat_10 : decode cX0_slotInSeat 10 = .ok (.aload_n 0, 1) := by decide +kernel
theorem dX0_slotInSeat_11 : decode cX0_slotInSeat 11 = .ok (.getfield 24, 3) := by decide +kernel
theorem dX0_slotInSeat_14 : decode cX0_slotInSeat 14 = .ok (.iload_n 2, 1) := by decide +kernel
theorem dX0_slotInSeat_15 : decode cX0_slotInSeat 15 = .ok (.iaload, 1) := by decide +kernel
theorem dX0_slotInSeat_16 : decode cX0_slotInSeat 16 = .ok (.iload_n 1, 1) := by decide +kernel
theorem dX0_slotInSeat_17 : decode cX0_slotInSeat 17 = .ok (.if_icmp .ne 5, 3) := by decide +kernel
theorem dX0_slotInSeat_20 : decode cX0_slotInSeat 20 = .ok (.iload_n 2, 1) := by decide +kernel
theorem dX0_slotInSeat_21 : decode cX0_slotInSeat 21 = .ok (.ireturn, 1) := by decide +kernel
theorem dX0_slotInSeat_22 : decode cX0_slotInSeat 22 = .ok (.iinc 2 1, 3) := by decide +kernel
theorem dX0_slotInSeat_25 : decode cX0_slotInSeat 25 = .ok (.goto (-23), 3) := by decide +kernel
theorem dX0_slotInSeat_28 : decode cX0_slotInSeat 28 = .ok (.iconst (-1), 1) := by decide +kernel
theorem dX0_slotInSeat_29 : decode cX0_slotInSeat 29 = .ok (.ireturn, 1) := by decide +kernel
theorem dX0_slotFrom_0 : decode cX0_slotFrom 0 = .ok (.iconst 0, 1) := by decide +kernel
theorem dX0_slotFrom_1 : decode cX0_slotFrom 1 = .ok (.istore_n 2, 1) := by decide +kernel
theorem dX0_slotFrom_2 : decode cX0_slotFrom 2 = .ok (.iload_n 2, 1) := by decide +kernel
theorem dX0_slotFrom_3 : decode cX0_slotFrom 3 = .ok (.aload_n 0, 1) := by decide +kernel
theorem dX0_slotFrom_4 : decode cX0_slotFrom 4 = .ok (.getfield 30, 3) := by decide +kernel
theorem dX0_slotFrom_7 : decode cX0_slotFrom 7 = .ok (.if_icmp .ge 21, 3) := by decide +kernel
theorem dX0_slotFrom_10 : decode cX0_slotFrom 10 = .ok (.aload_n 0, 1) := by decide +kernel
theorem dX0_slotFrom_11 : decode cX0_slotFrom 11 = .ok (.getfield 15, 3) := by decide +kernel
theorem dX0_slotFrom_14 : decode cX0_slotFrom 14 = .ok (.iload_n 2, 1) := by decide +kernel
theorem dX0_slotFrom_15 : decode cX0_slotFrom 15 = .ok (.iaload, 1) := by decide +kernel
theorem dX0_slotFrom_16 : decode cX0_slotFrom 16 = .ok (.iload_n 1, 1) := by decide +kernel
theorem dX0_slotFrom_17 : decode cX0_slotFrom 17 = .ok (.if_icmp .lt 5, 3) := by decide +kernel
theorem dX0_slotFrom_20 : decode cX0_slotFrom 20 = .ok (.iload_n 2, 1) := by decide +kernel
theorem dX0_slotFrom_21 : decode cX0_slotFrom 21 = .ok (.ireturn, 1) := by decide +kernel
theorem dX0_slotFrom_22 : decode cX0_slotFrom 22 = .ok (.iinc 2 1, 3) := by decide +kernel
theorem dX0_slotFrom_25 : decode cX0_slotFrom 25 = .ok (.goto (-23), 3) := by decide +kernel
theorem dX0_slotFrom_28 : decode cX0_slotFrom 28 = .ok (.iconst (-1), 1) := by decide +kernel
theorem dX0_slotFrom_29 : decode cX0_slotFrom 29 = .ok (.ireturn, 1) := by decide +kernel
theorem dX0_slotUpTo_0 : decode cX0_slotUpTo 0 = .ok (.aload_n 0, 1) := by decide +kernel
theorem dX0_slotUpTo_1 : decode cX0_slotUpTo 1 = .ok (.getfield 30, 3) := by decide +kernel
theorem dX0_slotUpTo_4 : decode cX0_slotUpTo 4 = .ok (.iconst 1, 1) := by decide +kernel
theorem dX0_slotUpTo_5 : decode cX0_slotUpTo 5 = .ok (.isub, 1) := by decide +kernel
theorem dX0_slotUpTo_6 : decode cX0_slotUpTo 6 = .ok (.istore_n 2, 1) := by decide +kernel
theorem dX0_slotUpTo_7 : decode cX0_slotUpTo 7 = .ok (.iload_n 2, 1) := by decide +kernel
theorem dX0_slotUpTo_8 : decode cX0_slotUpTo 8 = .ok (.ifCond .lt 21, 3) := by decide +kernel
theorem dX0_slotUpTo_11 : decode cX0_slotUpTo 11 = .ok (.aload_n 0, 1) := by decide +kernel
theorem dX0_slotUpTo_12 : decode cX0_slotUpTo 12 = .ok (.getfield 15, 3) := by decide +kernel
theorem dX0_slotUpTo_15 : decode cX0_slotUpTo 15 = .ok (.iload_n 2, 1) := by decide +kernel
theorem dX0_slotUpTo_16 : decode cX0_slotUpTo 16 = .ok (.iaload, 1) := by decide +kernel
theorem dX0_slotUpTo_17 : decode cX0_slotUpTo 17 = .ok (.iload_n 1, 1) := by decide +kernel
theorem dX0_slotUpTo_18 : decode cX0_slotUpTo 18 = .ok (.if_icmp .gt 5, 3) := by decide +kernel
theorem dX0_slotUpTo_21 : decode cX0_slotUpTo 21 = .ok (.iload_n 2, 1) := by decide +kernel
theorem dX0_slotUpTo_22 : decode cX0_slotUpTo 22 = .ok (.ireturn, 1) := by decide +kernel
theorem dX0_slotUpTo_23 : decode cX0_slotUpTo 23 = .ok (.iinc 2 (-1), 3) := by decide +kernel
theorem dX0_slotUpTo_26 : decode cX0_slotUpTo 26 = .ok (.goto (-19), 3) := by decide +kernel
theorem dX0_slotUpTo_29 : decode cX0_slotUpTo 29 = .ok (.iconst (-1), 1) := by decide +kernel
theorem dX0_slotUpTo_30 : decode cX0_slotUpTo 30 = .ok (.ireturn, 1) := by decide +kernel
theorem dX0_slotNearest_0 : decode cX0_slotNearest 0 = .ok (.aload_n 0, 1) := by decide +kernel
theorem dX0_slotNearest_1 : decode cX0_slotNearest 1 = .ok (.iload_n 1, 1) := by decide +kernel
theorem dX0_slotNearest_2 : decode cX0_slotNearest 2 = .ok (.invokevirtual 58, 3) := by decide +kernel
theorem dX0_slotNearest_5 : decode cX0_slotNearest 5 = .ok (.istore_n 2, 1) := by decide +kernel
theorem dX0_slotNearest_6 : decode cX0_slotNearest 6 = .ok (.aload_n 0, 1) := by decide +kernel
theorem dX0_slotNearest_7 : decode cX0_slotNearest 7 = .ok (.iload_n 1, 1) := by decide +kernel
theorem dX0_slotNearest_8 : decode cX0_slotNearest 8 = .ok (.invokevirtual 62, 3) := by decide +kernel
theorem dX0_slotNearest_11 : decode cX0_slotNearest 11 = .ok (.istore_n 3, 1) := by decide +kernel
theorem dX0_slotNearest_12 : decode cX0_slotNearest 12 = .ok (.iload_n 2, 1) := by decide +kernel
theorem dX0_slotNearest_13 : decode cX0_slotNearest 13 = .ok (.iconst (-1), 1) := by decide +kernel
theorem dX0_slotNearest_14 : decode cX0_slotNearest 14 = .ok (.if_icmp .ne 5, 3) := by decide +kernel
theorem dX0_slotNearest_17 : decode cX0_slotNearest 17 = .ok (.iload_n 3, 1) := by decide +kernel
theorem dX0_slotNearest_18 : decode cX0_slotNearest 18 = .ok (.ireturn, 1) := by decide +kernel
theorem dX0_slotNearest_19 : decode cX0_slotNearest 19 = .ok (.iload_n 3, 1) := by decide +kernel
theorem dX0_slotNearest_20 : decode cX0_slotNearest 20 = .ok (.iconst (-1), 1) := by decide +kernel
theorem dX0_slotNearest_21 : decode cX0_slotNearest 21 = .ok (.if_icmp .ne 5, 3) := by decide +kernel
theorem dX0_slotNearest_24 : decode cX0_slotNearest 24 = .ok (.iload_n 2, 1) := by decide +kernel
theorem dX0_slotNearest_25 : decode cX0_slotNearest 25 = .ok (.ireturn, 1) := by decide +kernel
theorem dX0_slotNearest_26 : decode cX0_slotNearest 26 = .ok (.iload_n 1, 1) := by decide +kernel
theorem dX0_slotNearest_27 : decode cX0_slotNearest 27 = .ok (.aload_n 0, 1) := by decide +kernel
theorem dX0_slotNearest_28 : decode cX0_slotNearest 28 = .ok (.getfield 15, 3) := by decide +kernel
theorem dX0_slotNearest_31 : decode cX0_slotNearest 31 = .ok (.iload_n 2, 1) := by decide +kernel
theorem dX0_slotNearest_32 : decode cX0_slotNearest 32 = .ok (.iaload, 1) := by decide +kernel
theorem dX0_slotNearest_33 : decode cX0_slotNearest 33 = .ok (.isub, 1) := by decide +kernel
theorem dX0_slotNearest_34 : decode cX0_slotNearest 34 = .ok (.aload_n 0, 1) := by decide +kernel
theorem dX0_slotNearest_35 : decode cX0_slotNearest 35 = .ok (.getfield 15, 3) := by decide +kernel
theorem dX0_slotNearest_38 : decode cX0_slotNearest 38 = .ok (.iload_n 3, 1) := by decide +kernel
theorem dX0_slotNearest_39 : decode cX0_slotNearest 39 = .ok (.iaload, 1) := by decide +kernel
theorem dX0_slotNearest_40 : decode cX0_slotNearest 40 = .ok (.iload_n 1, 1) := by decide +kernel
theorem dX0_slotNearest_41 : decode cX0_slotNearest 41 = .ok (.isub, 1) := by decide +kernel
theorem dX0_slotNearest_42 : decode cX0_slotNearest 42 = .ok (.if_icmp .gt 7, 3) := by decide +kernel
theorem dX0_slotNearest_45 : decode cX0_slotNearest 45 = .ok (.iload_n 2, 1) := by decide +kernel
theorem dX0_slotNearest_46 : decode cX0_slotNearest 46 = .ok (.goto 4, 3) := by decide +kernel
theorem dX0_slotNearest_49 : decode cX0_slotNearest 49 = .ok (.iload_n 3, 1) := by decide +kernel
theorem dX0_slotNearest_50 : decode cX0_slotNearest 50 = .ok (.ireturn, 1) := by decide +kernel
theorem dX0_isAhead_0 : decode cX0_isAhead 0 = .ok (.aload_n 0, 1) := by decide +kernel
theorem dX0_isAhead_1 : decode cX0_isAhead 1 = .ok (.getfield 18, 3) := by decide +kernel
theorem dX0_isAhead_4 : decode cX0_isAhead 4 = .ok (.iload_n 1, 1) := by decide +kernel
theorem dX0_isAhead_5 : decode cX0_isAhead 5 = .ok (.iaload, 1) := by decide +kernel
theorem dX0_isAhead_6 : decode cX0_isAhead 6 = .ok (.aload_n 0, 1) := by decide +kernel
theorem dX0_isAhead_7 : decode cX0_isAhead 7 = .ok (.getfield 18, 3) := by decide +kernel
theorem dX0_isAhead_10 : decode cX0_isAhead 10 = .ok (.iload_n 2, 1) := by decide +kernel
theorem dX0_isAhead_11 : decode cX0_isAhead 11 = .ok (.iaload, 1) := by decide +kernel
theorem dX0_isAhead_12 : decode cX0_isAhead 12 = .ok (.if_icmp .eq 24, 3) := by decide +kernel
theorem dX0_isAhead_15 : decode cX0_isAhead 15 = .ok (.aload_n 0, 1) := by decide +kernel
theorem dX0_isAhead_16 : decode cX0_isAhead 16 = .ok (.getfield 18, 3) := by decide +kernel
theorem dX0_isAhead_19 : decode cX0_isAhead 19 = .ok (.iload_n 1, 1) := by decide +kernel
theorem dX0_isAhead_20 : decode cX0_isAhead 20 = .ok (.iaload, 1) := by decide +kernel
theorem dX0_isAhead_21 : decode cX0_isAhead 21 = .ok (.aload_n 0, 1) := by decide +kernel
theorem dX0_isAhead_22 : decode cX0_isAhead 22 = .ok (.getfield 18, 3) := by decide +kernel
theorem dX0_isAhead_25 : decode cX0_isAhead 25 = .ok (.iload_n 2, 1) := by decide +kernel
theorem dX0_isAhead_26 : decode cX0_isAhead 26 = .ok (.iaload, 1) := by decide +kernel
theorem dX0_isAhead_27 : decode cX0_isAhead 27 = .ok (.if_icmp .le 7, 3) := by decide +kernel
theorem dX0_isAhead_30 : decode cX0_isAhead 30 = .ok (.iconst 1, 1) := by decide +kernel
theorem dX0_isAhead_31 : decode cX0_isAhead 31 = .ok (.goto 4, 3) := by decide +kernel
theorem dX0_isAhead_34 : decode cX0_isAhead 34 = .ok (.iconst 0, 1) := by decide +kernel
theorem dX0_isAhead_35 : decode cX0_isAhead 35 = .ok (.ireturn, 1) := by decide +kernel
theorem dX0_isAhead_36 : decode cX0_isAhead 36 = .ok (.aload_n 0, 1) := by decide +kernel
theorem dX0_isAhead_37 : decode cX0_isAhead 37 = .ok (.iload_n 1, 1) := by decide +kernel
theorem dX0_isAhead_38 : decode cX0_isAhead 38 = .ok (.invokevirtual 72, 3) := by decide +kernel
theorem dX0_isAhead_41 : decode cX0_isAhead 41 = .ok (.aload_n 0, 1) := by decide +kernel
theorem dX0_isAhead_42 : decode cX0_isAhead 42 = .ok (.iload_n 2, 1) := by decide +kernel
theorem dX0_isAhead_43 : decode cX0_isAhead 43 = .ok (.invokevirtual 72, 3) := by decide +kernel
theorem dX0_isAhead_46 : decode cX0_isAhead 46 = .ok (.if_icmp .eq 9, 3) := by decide +kernel
theorem dX0_isAhead_49 : decode cX0_isAhead 49 = .ok (.aload_n 0, 1) := by decide +kernel
theorem dX0_isAhead_50 : decode cX0_isAhead 50 = .ok (.iload_n 1, 1) := by decide +kernel
theorem dX0_isAhead_51 : decode cX0_isAhead 51 = .ok (.invokevirtual 72, 3) := by decide +kernel
theorem dX0_isAhead_54 : decode cX0_isAhead 54 = .ok (.ireturn, 1) := by decide +kernel
theorem dX0_isAhead_55 : decode cX0_isAhead 55 = .ok (.aload_n 0, 1) := by decide +kernel
theorem dX0_isAhead_56 : decode cX0_isAhead 56 = .ok (.getfield 15, 3) := by decide +kernel
theorem dX0_isAhead_59 : decode cX0_isAhead 59 = .ok (.iload_n 1, 1) := by decide +kernel
theorem dX0_isAhead_60 : decode cX0_isAhead 60 = .ok (.iaload, 1) := by decide +kernel
theorem dX0_isAhead_61 : decode cX0_isAhead 61 = .ok (.aload_n 0, 1) := by decide +kernel
theorem dX0_isAhead_62 : decode cX0_isAhead 62 = .ok (.getfield 15, 3) := by decide +kernel
theorem dX0_isAhead_65 : decode cX0_isAhead 65 = .ok (.iload_n 2, 1) := by decide +kernel
theorem dX0_isAhead_66 : decode cX0_isAhead 66 = .ok (.iaload, 1) := by decide +kernel
theorem dX0_isAhead_67 : decode cX0_isAhead 67 = .ok (.if_icmp .ge 7, 3) := by decide +kernel
theorem dX0_isAhead_70 : decode cX0_isAhead 70 = .ok (.iconst 1, 1) := by decide +kernel
theorem dX0_isAhead_71 : decode cX0_isAhead 71 = .ok (.goto 4, 3) := by decide +kernel
theorem dX0_isAhead_74 : decode cX0_isAhead 74 = .ok (.iconst 0, 1) := by decide +kernel
theorem dX0_isAhead_75 : decode cX0_isAhead 75 = .ok (.ireturn, 1) := by decide +kernel
theorem dX0_rankOf_0 : decode cX0_rankOf 0 = .ok (.iconst 0, 1) := by decide +kernel
theorem dX0_rankOf_1 : decode cX0_rankOf 1 = .ok (.istore_n 2, 1) := by decide +kernel
theorem dX0_rankOf_2 : decode cX0_rankOf 2 = .ok (.iconst 0, 1) := by decide +kernel
theorem dX0_rankOf_3 : decode cX0_rankOf 3 = .ok (.istore_n 3, 1) := by decide +kernel
theorem dX0_rankOf_4 : decode cX0_rankOf 4 = .ok (.iload_n 3, 1) := by decide +kernel
theorem dX0_rankOf_5 : decode cX0_rankOf 5 = .ok (.aload_n 0, 1) := by decide +kernel
theorem dX0_rankOf_6 : decode cX0_rankOf 6 = .ok (.getfield 30, 3) := by decide +kernel
theorem dX0_rankOf_9 : decode cX0_rankOf 9 = .ok (.if_icmp .ge 21, 3) := by decide +kernel
theorem dX0_rankOf_12 : decode cX0_rankOf 12 = .ok (.aload_n 0, 1) := by decide +kernel
theorem dX0_rankOf_13 : decode cX0_rankOf 13 = .ok (.iload_n 3, 1) := by decide +kernel
theorem dX0_rankOf_14 : decode cX0_rankOf 14 = .ok (.iload_n 1, 1) := by decide +kernel
theorem dX0_rankOf_15 : decode cX0_rankOf 15 = .ok (.invokevirtual 68, 3) := by decide +kernel
theorem dX0_rankOf_18 : decode cX0_rankOf 18 = .ok (.ifCond .eq 6, 3) := by decide +kernel
theorem dX0_rankOf_21 : decode cX0_rankOf 21 = .ok (.iinc 2 1, 3) := by decide +kernel
theorem dX0_rankOf_24 : decode cX0_rankOf 24 = .ok (.iinc 3 1, 3) := by decide +kernel
theorem dX0_rankOf_27 : decode cX0_rankOf 27 = .ok (.goto (-23), 3) := by decide +kernel
theorem dX0_rankOf_30 : decode cX0_rankOf 30 = .ok (.iload_n 2, 1) := by decide +kernel
theorem dX0_rankOf_31 : decode cX0_rankOf 31 = .ok (.ireturn, 1) := by decide +kernel
theorem dX0_slotOfRank_0 : decode cX0_slotOfRank 0 = .ok (.iconst 0, 1) := by decide +kernel
theorem dX0_slotOfRank_1 : decode cX0_slotOfRank 1 = .ok (.istore_n 2, 1) := by decide +kernel
theorem dX0_slotOfRank_2 : decode cX0_slotOfRank 2 = .ok (.iload_n 2, 1) := by decide +kernel
theorem dX0_slotOfRank_3 : decode cX0_slotOfRank 3 = .ok (.aload_n 0, 1) := by decide +kernel
theorem dX0_slotOfRank_4 : decode cX0_slotOfRank 4 = .ok (.getfield 30, 3) := by decide +kernel
theorem dX0_slotOfRank_7 : decode cX0_slotOfRank 7 = .ok (.if_icmp .ge 20, 3) := by decide +kernel
theorem dX0_slotOfRank_10 : decode cX0_slotOfRank 10 = .ok (.aload_n 0, 1) := by decide +kernel
theorem dX0_slotOfRank_11 : decode cX0_slotOfRank 11 = .ok (.iload_n 2, 1) := by decide +kernel
theorem dX0_slotOfRank_12 : decode cX0_slotOfRank 12 = .ok (.invokevirtual 65, 3) := by decide +kernel
theorem dX0_slotOfRank_15 : decode cX0_slotOfRank 15 = .ok (.iload_n 1, 1) := by decide +kernel
theorem dX0_slotOfRank_16 : decode cX0_slotOfRank 16 = .ok (.if_icmp .ne 5, 3) := by decide +kernel
theorem dX0_slotOfRank_19 : decode cX0_slotOfRank 19 = .ok (.iload_n 2, 1) := by decide +kernel
theorem dX0_slotOfRank_20 : decode cX0_slotOfRank 20 = .ok (.ireturn, 1) := by decide +kernel
theorem dX0_slotOfRank_21 : decode cX0_slotOfRank 21 = .ok (.iinc 2 1, 3) := by decide +kernel
theorem dX0_slotOfRank_24 : decode cX0_slotOfRank 24 = .ok (.goto (-22), 3) := by decide +kernel
theorem dX0_slotOfRank_27 : decode cX0_slotOfRank 27 = .ok (.iconst (-1), 1) := by decide +kernel
theorem dX0_slotOfRank_28 : decode cX0_slotOfRank 28 = .ok (.ireturn, 1) := by decide +kernel
theorem dX0_freeSeat_0 : decode cX0_freeSeat 0 = .ok (.iconst 0, 1) := by decide +kernel
theorem dX0_freeSeat_1 : decode cX0_freeSeat 1 = .ok (.istore_n 1, 1) := by decide +kernel
theorem dX0_freeSeat_2 : decode cX0_freeSeat 2 = .ok (.iload_n 1, 1) := by decide +kernel
theorem dX0_freeSeat_3 : decode cX0_freeSeat 3 = .ok (.iconst 5, 1) := by decide +kernel
theorem dX0_freeSeat_4 : decode cX0_freeSeat 4 = .ok (.if_icmp .ge 20, 3) := by decide +kernel
theorem dX0_freeSeat_7 : decode cX0_freeSeat 7 = .ok (.aload_n 0, 1) := by decide +kernel
theorem dX0_freeSeat_8 : decode cX0_freeSeat 8 = .ok (.iload_n 1, 1) := by decide +kernel
theorem dX0_freeSeat_9 : decode cX0_freeSeat 9 = .ok (.invokevirtual 76, 3) := by decide +kernel
theorem dX0_freeSeat_12 : decode cX0_freeSeat 12 = .ok (.iconst (-1), 1) := by decide +kernel
theorem dX0_freeSeat_13 : decode cX0_freeSeat 13 = .ok (.if_icmp .ne 5, 3) := by decide +kernel
theorem dX0_freeSeat_16 : decode cX0_freeSeat 16 = .ok (.iload_n 1, 1) := by decide +kernel
theorem dX0_freeSeat_17 : decode cX0_freeSeat 17 = .ok (.ireturn, 1) := by decide +kernel
theorem dX0_freeSeat_18 : decode cX0_freeSeat 18 = .ok (.iinc 1 1, 3) := by decide +kernel
theorem dX0_freeSeat_21 : decode cX0_freeSeat 21 = .ok (.goto (-19), 3) := by decide +kernel
theorem dX0_freeSeat_24 : decode cX0_freeSeat 24 = .ok (.iconst (-1), 1) := by decide +kernel
theorem dX0_freeSeat_25 : decode cX0_freeSeat 25 = .ok (.ireturn, 1) := by decide +kernel
theorem dX0_chapterWith_0 : decode cX0_chapterWith 0 = .ok (.aload_n 0, 1) := by decide +kernel
theorem dX0_chapterWith_1 : decode cX0_chapterWith 1 = .ok (.getfield 34, 3) := by decide +kernel
theorem dX0_chapterWith_4 : decode cX0_chapterWith 4 = .ok (.iconst 1, 1) := by decide +kernel
theorem dX0_chapterWith_5 : decode cX0_chapterWith 5 = .ok (.isub, 1) := by decide +kernel
theorem dX0_chapterWith_6 : decode cX0_chapterWith 6 = .ok (.istore_n 2, 1) := by decide +kernel
theorem dX0_chapterWith_7 : decode cX0_chapterWith 7 = .ok (.iload_n 2, 1) := by decide +kernel
theorem dX0_chapterWith_8 : decode cX0_chapterWith 8 = .ok (.ifCond .le 21, 3) := by decide +kernel
theorem dX0_chapterWith_11 : decode cX0_chapterWith 11 = .ok (.aload_n 0, 1) := by decide +kernel
theorem dX0_chapterWith_12 : decode cX0_chapterWith 12 = .ok (.getfield 27, 3) := by decide +kernel
theorem dX0_chapterWith_15 : decode cX0_chapterWith 15 = .ok (.iload_n 2, 1) := by decide +kernel
theorem dX0_chapterWith_16 : decode cX0_chapterWith 16 = .ok (.iaload, 1) := by decide +kernel
theorem dX0_chapterWith_17 : decode cX0_chapterWith 17 = .ok (.iload_n 1, 1) := by decide +kernel
theorem dX0_chapterWith_18 : decode cX0_chapterWith 18 = .ok (.if_icmp .gt 5, 3) := by decide +kernel
theorem dX0_chapterWith_21 : decode cX0_chapterWith 21 = .ok (.iload_n 2, 1) := by decide +kernel
theorem dX0_chapterWith_22 : decode cX0_chapterWith 22 = .ok (.ireturn, 1) := by decide +kernel
theorem dX0_chapterWith_23 : decode cX0_chapterWith 23 = .ok (.iinc 2 (-1), 3) := by decide +kernel
theorem dX0_chapterWith_26 : decode cX0_chapterWith 26 = .ok (.goto (-19), 3) := by decide +kernel
theorem dX0_chapterWith_29 : decode cX0_chapterWith 29 = .ok (.iconst 0, 1) := by decide +kernel
theorem dX0_chapterWith_30 : decode cX0_chapterWith 30 = .ok (.ireturn, 1) := by decide +kernel
theorem dX0_endOf_0 : decode cX0_endOf 0 = .ok (.iload_n 1, 1) := by decide +kernel
theorem dX0_endOf_1 : decode cX0_endOf 1 = .ok (.iconst 1, 1) := by decide +kernel
theorem dX0_endOf_2 : decode cX0_endOf 2 = .ok (.iadd, 1) := by decide +kernel
theorem dX0_endOf_3 : decode cX0_endOf 3 = .ok (.aload_n 0, 1) := by decide +kernel
theorem dX0_endOf_4 : decode cX0_endOf 4 = .ok (.getfield 34, 3) := by decide +kernel
theorem dX0_endOf_7 : decode cX0_endOf 7 = .ok (.if_icmp .ge 16, 3) := by decide +kernel
theorem dX0_endOf_10 : decode cX0_endOf 10 = .ok (.aload_n 0, 1) := by decide +kernel
theorem dX0_endOf_11 : decode cX0_endOf 11 = .ok (.getfield 27, 3) := by decide +kernel
theorem dX0_endOf_14 : decode cX0_endOf 14 = .ok (.iload_n 1, 1) := by decide +kernel
theorem dX0_endOf_15 : decode cX0_endOf 15 = .ok (.iconst 1, 1) := by decide +kernel
theorem dX0_endOf_16 : decode cX0_endOf 16 = .ok (.iadd, 1) := by decide +kernel
theorem dX0_endOf_17 : decode cX0_endOf 17 = .ok (.iaload, 1) := by decide +kernel
theorem dX0_endOf_18 : decode cX0_endOf 18 = .ok (.iconst 1, 1) := by decide +kernel
theorem dX0_endOf_19 : decode cX0_endOf 19 = .ok (.isub, 1) := by decide +kernel
theorem dX0_endOf_20 : decode cX0_endOf 20 = .ok (.goto 5, 3) := by decide +kernel
theorem dX0_endOf_23 : decode cX0_endOf 23 = .ok (.bipush 59, 2) := by decide +kernel
theorem dX0_endOf_25 : decode cX0_endOf 25 = .ok (.ireturn, 1) := by decide +kernel
theorem dX0_isIn_0 : decode cX0_isIn 0 = .ok (.aload_n 0, 1) := by decide +kernel
theorem dX0_isIn_1 : decode cX0_isIn 1 = .ok (.getfield 15, 3) := by decide +kernel
theorem dX0_isIn_4 : decode cX0_isIn 4 = .ok (.iload_n 1, 1) := by decide +kernel
theorem dX0_isIn_5 : decode cX0_isIn 5 = .ok (.iaload, 1) := by decide +kernel
theorem dX0_isIn_6 : decode cX0_isIn 6 = .ok (.istore_n 3, 1) := by decide +kernel
theorem dX0_isIn_7 : decode cX0_isIn 7 = .ok (.iload_n 3, 1) := by decide +kernel
theorem dX0_isIn_8 : decode cX0_isIn 8 = .ok (.aload_n 0, 1) := by decide +kernel
theorem dX0_isIn_9 : decode cX0_isIn 9 = .ok (.getfield 27, 3) := by decide +kernel
theorem dX0_isIn_12 : decode cX0_isIn 12 = .ok (.iload_n 2, 1) := by decide +kernel
theorem dX0_isIn_13 : decode cX0_isIn 13 = .ok (.iaload, 1) := by decide +kernel
theorem dX0_isIn_14 : decode cX0_isIn 14 = .ok (.if_icmp .lt 29, 3) := by decide +kernel
theorem dX0_isIn_17 : decode cX0_isIn 17 = .ok (.iload_n 2, 1) := by decide +kernel
theorem dX0_isIn_18 : decode cX0_isIn 18 = .ok (.iconst 1, 1) := by decide +kernel
theorem dX0_isIn_19 : decode cX0_isIn 19 = .ok (.iadd, 1) := by decide +kernel
theorem dX0_isIn_20 : decode cX0_isIn 20 = .ok (.aload_n 0, 1) := by decide +kernel
theorem dX0_isIn_21 : decode cX0_isIn 21 = .ok (.getfield 34, 3) := by decide +kernel
theorem dX0_isIn_24 : decode cX0_isIn 24 = .ok (.if_icmp .ge 15, 3) := by decide +kernel
theorem dX0_isIn_27 : decode cX0_isIn 27 = .ok (.iload_n 3, 1) := by decide +kernel
theorem dX0_isIn_28 : decode cX0_isIn 28 = .ok (.aload_n 0, 1) := by decide +kernel
theorem dX0_isIn_29 : decode cX0_isIn 29 = .ok (.getfield 27, 3) := by decide +kernel
theorem dX0_isIn_32 : decode cX0_isIn 32 = .ok (.iload_n 2, 1) := by decide +kernel
theorem dX0_isIn_33 : decode cX0_isIn 33 = .ok (.iconst 1, 1) := by decide +kernel
theorem dX0_isIn_34 : decode cX0_isIn 34 = .ok (.iadd, 1) := by decide +kernel
theorem dX0_isIn_35 : decode cX0_isIn 35 = .ok (.iaload, 1) := by decide +kernel
theorem dX0_isIn_36 : decode cX0_isIn 36 = .ok (.if_icmp .ge 7, 3) := by decide +kernel
theorem dX0_isIn_39 : decode cX0_isIn 39 = .ok (.iconst 1, 1) := by decide +kernel
theorem dX0_isIn_40 : decode cX0_isIn 40 = .ok (.goto 4, 3) := by decide +kernel
theorem dX0_isIn_43 : decode cX0_isIn 43 = .ok (.iconst 0, 1) := by decide +kernel
theorem dX0_isIn_44 : decode cX0_isIn 44 = .ok (.ireturn, 1) := by decide +kernel
theorem dX0_heldPageByPage_0 : decode cX0_heldPageByPage 0 = .ok (.iconst 0, 1) := by decide +kernel
theorem dX0_heldPageByPage_1 : decode cX0_heldPageByPage 1 = .ok (.istore_n 2, 1) := by decide +kernel
theorem dX0_heldPageByPage_2 : decode cX0_heldPageByPage 2 = .ok (.aload_n 0, 1) := by decide +kernel
theorem dX0_heldPageByPage_3 : decode cX0_heldPageByPage 3 = .ok (.iload_n 1, 1) := by decide +kernel
theorem dX0_heldPageByPage_4 : decode cX0_heldPageByPage 4 = .ok (.invokevirtual 79, 3) := by decide +kernel
theorem dX0_heldPageByPage_7 : decode cX0_heldPageByPage 7 = .ok (.istore_n 3, 1) := by decide +kernel
theorem dX0_heldPageByPage_8 : decode cX0_heldPageByPage 8 = .ok (.aload_n 0, 1) := by decide +kernel
theorem dX0_heldPageByPage_9 : decode cX0_heldPageByPage 9 = .ok (.getfield 27, 3) := by decide +kernel
theorem dX0_heldPageByPage_12 : decode cX0_heldPageByPage 12 = .ok (.iload_n 1, 1) := by decide +kernel
theorem dX0_heldPageByPage_13 : decode cX0_heldPageByPage 13 = .ok (.iaload, 1) := by decide +kernel
theorem dX0_heldPageByPage_14 : decode cX0_heldPageByPage 14 = .ok (.istore 4, 2) := by decide +kernel
theorem dX0_heldPageByPage_16 : decode cX0_heldPageByPage 16 = .ok (.iload 4, 2) := by decide +kernel
theorem dX0_heldPageByPage_18 : decode cX0_heldPageByPage 18 = .ok (.iload_n 3, 1) := by decide +kernel
theorem dX0_heldPageByPage_19 : decode cX0_heldPageByPage 19 = .ok (.if_icmp .gt 22, 3) := by decide +kernel
theorem dX0_heldPageByPage_22 : decode cX0_heldPageByPage 22 = .ok (.aload_n 0, 1) := by decide +kernel
theorem dX0_heldPageByPage_23 : decode cX0_heldPageByPage 23 = .ok (.iload 4, 2) := by decide +kernel
theorem dX0_heldPageByPage_25 : decode cX0_heldPageByPage 25 = .ok (.invokevirtual 82, 3) := by decide +kernel
theorem dX0_heldPageByPage_28 : decode cX0_heldPageByPage 28 = .ok (.iconst (-1), 1) := by decide +kernel
theorem dX0_heldPageByPage_29 : decode cX0_heldPageByPage 29 = .ok (.if_icmp .eq 6, 3) := by decide +kernel
theorem dX0_heldPageByPage_32 : decode cX0_heldPageByPage 32 = .ok (.iinc 2 1, 3) := by decide +kernel
theorem dX0_heldPageByPage_35 : decode cX0_heldPageByPage 35 = .ok (.iinc 4 1, 3) := by decide +kernel
theorem dX0_heldPageByPage_38 : decode cX0_heldPageByPage 38 = .ok (.goto (-22), 3) := by decide +kernel
theorem dX0_heldPageByPage_41 : decode cX0_heldPageByPage 41 = .ok (.iload_n 2, 1) := by decide +kernel
theorem dX0_heldPageByPage_42 : decode cX0_heldPageByPage 42 = .ok (.ireturn, 1) := by decide +kernel
theorem dX0_heldMarkByMark_0 : decode cX0_heldMarkByMark 0 = .ok (.iconst 0, 1) := by decide +kernel
theorem dX0_heldMarkByMark_1 : decode cX0_heldMarkByMark 1 = .ok (.istore_n 2, 1) := by decide +kernel
theorem dX0_heldMarkByMark_2 : decode cX0_heldMarkByMark 2 = .ok (.iconst 0, 1) := by decide +kernel
theorem dX0_heldMarkByMark_3 : decode cX0_heldMarkByMark 3 = .ok (.istore_n 3, 1) := by decide +kernel
theorem dX0_heldMarkByMark_4 : decode cX0_heldMarkByMark 4 = .ok (.iload_n 3, 1) := by decide +kernel
theorem dX0_heldMarkByMark_5 : decode cX0_heldMarkByMark 5 = .ok (.aload_n 0, 1) := by decide +kernel
theorem dX0_heldMarkByMark_6 : decode cX0_heldMarkByMark 6 = .ok (.getfield 30, 3) := by decide +kernel
theorem dX0_heldMarkByMark_9 : decode cX0_heldMarkByMark 9 = .ok (.if_icmp .ge 21, 3) := by decide +kernel
theorem dX0_heldMarkByMark_12 : decode cX0_heldMarkByMark 12 = .ok (.aload_n 0, 1) := by decide +kernel
theorem dX0_heldMarkByMark_13 : decode cX0_heldMarkByMark 13 = .ok (.iload_n 3, 1) := by decide +kernel
theorem dX0_heldMarkByMark_14 : decode cX0_heldMarkByMark 14 = .ok (.iload_n 1, 1) := by decide +kernel
theorem dX0_heldMarkByMark_15 : decode cX0_heldMarkByMark 15 = .ok (.invokevirtual 85, 3) := by decide +kernel
theorem dX0_heldMarkByMark_18 : decode cX0_heldMarkByMark 18 = .ok (.ifCond .eq 6, 3) := by decide +kernel
theorem dX0_heldMarkByMark_21 : decode cX0_heldMarkByMark 21 = .ok (.iinc 2 1, 3) := by decide +kernel
theorem dX0_heldMarkByMark_24 : decode cX0_heldMarkByMark 24 = .ok (.iinc 3 1, 3) := by decide +kernel
theorem dX0_heldMarkByMark_27 : decode cX0_heldMarkByMark 27 = .ok (.goto (-23), 3) := by decide +kernel
theorem dX0_heldMarkByMark_30 : decode cX0_heldMarkByMark 30 = .ok (.iload_n 2, 1) := by decide +kernel
theorem dX0_heldMarkByMark_31 : decode cX0_heldMarkByMark 31 = .ok (.ireturn, 1) := by decide +kernel
theorem dX0_weightIn_0 : decode cX0_weightIn 0 = .ok (.iconst 0, 1) := by decide +kernel
theorem dX0_weightIn_1 : decode cX0_weightIn 1 = .ok (.istore_n 2, 1) := by decide +kernel
theorem dX0_weightIn_2 : decode cX0_weightIn 2 = .ok (.iconst 0, 1) := by decide +kernel
theorem dX0_weightIn_3 : decode cX0_weightIn 3 = .ok (.istore_n 3, 1) := by decide +kernel
theorem dX0_weightIn_4 : decode cX0_weightIn 4 = .ok (.iload_n 3, 1) := by decide +kernel
theorem dX0_weightIn_5 : decode cX0_weightIn 5 = .ok (.aload_n 0, 1) := by decide +kernel
theorem dX0_weightIn_6 : decode cX0_weightIn 6 = .ok (.getfield 30, 3) := by decide +kernel
theorem dX0_weightIn_9 : decode cX0_weightIn 9 = .ok (.if_icmp .ge 27, 3) := by decide +kernel
theorem dX0_weightIn_12 : decode cX0_weightIn 12 = .ok (.aload_n 0, 1) := by decide +kernel
theorem dX0_weightIn_13 : decode cX0_weightIn 13 = .ok (.iload_n 3, 1) := by decide +kernel
theorem dX0_weightIn_14 : decode cX0_weightIn 14 = .ok (.iload_n 1, 1) := by decide +kernel
theorem dX0_weightIn_15 : decode cX0_weightIn 15 = .ok (.invokevirtual 85, 3) := by decide +kernel
theorem dX0_weightIn_18 : decode cX0_weightIn 18 = .ok (.ifCond .eq 12, 3) := by decide +kernel
theorem dX0_weightIn_21 : decode cX0_weightIn 21 = .ok (.iload_n 2, 1) := by decide +kernel
theorem dX0_weightIn_22 : decode cX0_weightIn 22 = .ok (.aload_n 0, 1) := by decide +kernel
theorem dX0_weightIn_23 : decode cX0_weightIn 23 = .ok (.getfield 18, 3) := by decide +kernel
theorem dX0_weightIn_26 : decode cX0_weightIn 26 = .ok (.iload_n 3, 1) := by decide +kernel
theorem dX0_weightIn_27 : decode cX0_weightIn 27 = .ok (.iaload, 1) := by decide +kernel
theorem dX0_weightIn_28 : decode cX0_weightIn 28 = .ok (.iadd, 1) := by decide +kernel
theorem dX0_weightIn_29 : decode cX0_weightIn 29 = .ok (.istore_n 2, 1) := by decide +kernel
theorem dX0_weightIn_30 : decode cX0_weightIn 30 = .ok (.iinc 3 1, 3) := by decide +kernel
theorem dX0_weightIn_33 : decode cX0_weightIn 33 = .ok (.goto (-29), 3) := by decide +kernel
theorem dX0_weightIn_36 : decode cX0_weightIn 36 = .ok (.iload_n 2, 1) := by decide +kernel
theorem dX0_weightIn_37 : decode cX0_weightIn 37 = .ok (.ireturn, 1) := by decide +kernel
theorem dX0_favour_0 : decode cX0_favour 0 = .ok (.iconst 0, 1) := by decide +kernel
theorem dX0_favour_1 : decode cX0_favour 1 = .ok (.istore_n 2, 1) := by decide +kernel
theorem dX0_favour_2 : decode cX0_favour 2 = .ok (.iconst 0, 1) := by decide +kernel
theorem dX0_favour_3 : decode cX0_favour 3 = .ok (.istore_n 3, 1) := by decide +kernel
theorem dX0_favour_4 : decode cX0_favour 4 = .ok (.iload_n 3, 1) := by decide +kernel
theorem dX0_favour_5 : decode cX0_favour 5 = .ok (.aload_n 0, 1) := by decide +kernel
theorem dX0_favour_6 : decode cX0_favour 6 = .ok (.getfield 30, 3) := by decide +kernel
theorem dX0_favour_9 : decode cX0_favour 9 = .ok (.if_icmp .ge 35, 3) := by decide +kernel
theorem dX0_favour_12 : decode cX0_favour 12 = .ok (.aload_n 0, 1) := by decide +kernel
theorem dX0_favour_13 : decode cX0_favour 13 = .ok (.iload_n 3, 1) := by decide +kernel
theorem dX0_favour_14 : decode cX0_favour 14 = .ok (.invokevirtual 72, 3) := by decide +kernel
theorem dX0_favour_17 : decode cX0_favour 17 = .ok (.ifCond .eq 21, 3) := by decide +kernel
theorem dX0_favour_20 : decode cX0_favour 20 = .ok (.aload_n 0, 1) := by decide +kernel
theorem dX0_favour_21 : decode cX0_favour 21 = .ok (.iload_n 3, 1) := by decide +kernel
theorem dX0_favour_22 : decode cX0_favour 22 = .ok (.iload_n 1, 1) := by decide +kernel
theorem dX0_favour_23 : decode cX0_favour 23 = .ok (.invokevirtual 85, 3) := by decide +kernel
theorem dX0_favour_26 : decode cX0_favour 26 = .ok (.ifCond .ne 12, 3) := by decide +kernel
theorem dX0_favour_29 : decode cX0_favour 29 = .ok (.iload_n 2, 1) := by decide +kernel
theorem dX0_favour_30 : decode cX0_favour 30 = .ok (.aload_n 0, 1) := by decide +kernel
theorem dX0_favour_31 : decode cX0_favour 31 = .ok (.getfield 18, 3) := by decide +kernel
theorem dX0_favour_34 : decode cX0_favour 34 = .ok (.iload_n 3, 1) := by decide +kernel
theorem dX0_favour_35 : decode cX0_favour 35 = .ok (.iaload, 1) := by decide +kernel
theorem dX0_favour_36 : decode cX0_favour 36 = .ok (.iadd, 1) := by decide +kernel
theorem dX0_favour_37 : decode cX0_favour 37 = .ok (.istore_n 2, 1) := by decide +kernel
theorem dX0_favour_38 : decode cX0_favour 38 = .ok (.iinc 3 1, 3) := by decide +kernel
theorem dX0_favour_41 : decode cX0_favour 41 = .ok (.goto (-37), 3) := by decide +kernel
theorem dX0_favour_44 : decode cX0_favour 44 = .ok (.iload_n 2, 1) := by decide +kernel
theorem dX0_favour_45 : decode cX0_favour 45 = .ok (.ireturn, 1) := by decide +kernel
theorem dX0_against_0 : decode cX0_against 0 = .ok (.iconst 0, 1) := by decide +kernel
theorem dX0_against_1 : decode cX0_against 1 = .ok (.istore_n 2, 1) := by decide +kernel
theorem dX0_against_2 : decode cX0_against 2 = .ok (.iconst 0, 1) := by decide +kernel
theorem dX0_against_3 : decode cX0_against 3 = .ok (.istore_n 3, 1) := by decide +kernel
theorem dX0_against_4 : decode cX0_against 4 = .ok (.iload_n 3, 1) := by decide +kernel
theorem dX0_against_5 : decode cX0_against 5 = .ok (.aload_n 0, 1) := by decide +kernel
theorem dX0_against_6 : decode cX0_against 6 = .ok (.getfield 30, 3) := by decide +kernel
theorem dX0_against_9 : decode cX0_against 9 = .ok (.if_icmp .ge 35, 3) := by decide +kernel
theorem dX0_against_12 : decode cX0_against 12 = .ok (.aload_n 0, 1) := by decide +kernel
theorem dX0_against_13 : decode cX0_against 13 = .ok (.iload_n 3, 1) := by decide +kernel
theorem dX0_against_14 : decode cX0_against 14 = .ok (.invokevirtual 72, 3) := by decide +kernel
theorem dX0_against_17 : decode cX0_against 17 = .ok (.ifCond .eq 12, 3) := by decide +kernel
theorem dX0_against_20 : decode cX0_against 20 = .ok (.aload_n 0, 1) := by decide +kernel
theorem dX0_against_21 : decode cX0_against 21 = .ok (.iload_n 3, 1) := by decide +kernel
theorem dX0_against_22 : decode cX0_against 22 = .ok (.iload_n 1, 1) := by decide +kernel
theorem dX0_against_23 : decode cX0_against 23 = .ok (.invokevirtual 85, 3) := by decide +kernel
theorem dX0_against_26 : decode cX0_against 26 = .ok (.ifCond .eq 12, 3) := by decide +kernel
theorem dX0_against_29 : decode cX0_against 29 = .ok (.iload_n 2, 1) := by decide +kernel
theorem dX0_against_30 : decode cX0_against 30 = .ok (.aload_n 0, 1) := by decide +kernel
theorem dX0_against_31 : decode cX0_against 31 = .ok (.getfield 18, 3) := by decide +kernel
theorem dX0_against_34 : decode cX0_against 34 = .ok (.iload_n 3, 1) := by decide +kernel
theorem dX0_against_35 : decode cX0_against 35 = .ok (.iaload, 1) := by decide +kernel
theorem dX0_against_36 : decode cX0_against 36 = .ok (.iadd, 1) := by decide +kernel
theorem dX0_against_37 : decode cX0_against 37 = .ok (.istore_n 2, 1) := by decide +kernel
theorem dX0_against_38 : decode cX0_against 38 = .ok (.iinc 3 1, 3) := by decide +kernel
theorem dX0_against_41 : decode cX0_against 41 = .ok (.goto (-37), 3) := by decide +kernel
theorem dX0_against_44 : decode cX0_against 44 = .ok (.iload_n 2, 1) := by decide +kernel
theorem dX0_against_45 : decode cX0_against 45 = .ok (.ireturn, 1) := by decide +kernel
theorem dX0_weightOfAll_0 : decode cX0_weightOfAll 0 = .ok (.iconst 0, 1) := by decide +kernel
theorem dX0_weightOfAll_1 : decode cX0_weightOfAll 1 = .ok (.istore_n 1, 1) := by decide +kernel
theorem dX0_weightOfAll_2 : decode cX0_weightOfAll 2 = .ok (.iconst 0, 1) := by decide +kernel
theorem dX0_weightOfAll_3 : decode cX0_weightOfAll 3 = .ok (.istore_n 2, 1) := by decide +kernel
theorem dX0_weightOfAll_4 : decode cX0_weightOfAll 4 = .ok (.iload_n 2, 1) := by decide +kernel
theorem dX0_weightOfAll_5 : decode cX0_weightOfAll 5 = .ok (.aload_n 0, 1) := by decide +kernel
theorem dX0_weightOfAll_6 : decode cX0_weightOfAll 6 = .ok (.getfield 30, 3) := by decide +kernel
theorem dX0_weightOfAll_9 : decode cX0_weightOfAll 9 = .ok (.if_icmp .ge 18, 3) := by decide +kernel
theorem dX0_weightOfAll_12 : decode cX0_weightOfAll 12 = .ok (.iload_n 1, 1) := by decide +kernel
theorem dX0_weightOfAll_13 : decode cX0_weightOfAll 13 = .ok (.aload_n 0, 1) := by decide +kernel
theorem dX0_weightOfAll_14 : decode cX0_weightOfAll 14 = .ok (.getfield 18, 3) := by decide +kernel
theorem dX0_weightOfAll_17 : decode cX0_weightOfAll 17 = .ok (.iload_n 2, 1) := by decide +kernel
theorem dX0_weightOfAll_18 : decode cX0_weightOfAll 18 = .ok (.iaload, 1) := by decide +kernel
theorem dX0_weightOfAll_19 : decode cX0_weightOfAll 19 = .ok (.iadd, 1) := by decide +kernel
theorem dX0_weightOfAll_20 : decode cX0_weightOfAll 20 = .ok (.istore_n 1, 1) := by decide +kernel
theorem dX0_weightOfAll_21 : decode cX0_weightOfAll 21 = .ok (.iinc 2 1, 3) := by decide +kernel
theorem dX0_weightOfAll_24 : decode cX0_weightOfAll 24 = .ok (.goto (-20), 3) := by decide +kernel
theorem dX0_weightOfAll_27 : decode cX0_weightOfAll 27 = .ok (.iload_n 1, 1) := by decide +kernel
theorem dX0_weightOfAll_28 : decode cX0_weightOfAll 28 = .ok (.ireturn, 1) := by decide +kernel
theorem dX0_againstByTotal_0 : decode cX0_againstByTotal 0 = .ok (.aload_n 0, 1) := by decide +kernel
theorem dX0_againstByTotal_1 : decode cX0_againstByTotal 1 = .ok (.invokevirtual 88, 3) := by decide +kernel
theorem dX0_againstByTotal_4 : decode cX0_againstByTotal 4 = .ok (.aload_n 0, 1) := by decide +kernel
theorem dX0_againstByTotal_5 : decode cX0_againstByTotal 5 = .ok (.iload_n 1, 1) := by decide +kernel
theorem dX0_againstByTotal_6 : decode cX0_againstByTotal 6 = .ok (.invokevirtual 92, 3) := by decide +kernel
theorem dX0_againstByTotal_9 : decode cX0_againstByTotal 9 = .ok (.isub, 1) := by decide +kernel
theorem dX0_againstByTotal_10 : decode cX0_againstByTotal 10 = .ok (.ireturn, 1) := by decide +kernel
theorem dX0_wouldCarry_0 : decode cX0_wouldCarry 0 = .ok (.aload_n 0, 1) := by decide +kernel
theorem dX0_wouldCarry_1 : decode cX0_wouldCarry 1 = .ok (.iload_n 1, 1) := by decide +kernel
theorem dX0_wouldCarry_2 : decode cX0_wouldCarry 2 = .ok (.invokevirtual 92, 3) := by decide +kernel
theorem dX0_wouldCarry_5 : decode cX0_wouldCarry 5 = .ok (.aload_n 0, 1) := by decide +kernel
theorem dX0_wouldCarry_6 : decode cX0_wouldCarry 6 = .ok (.iload_n 1, 1) := by decide +kernel
theorem dX0_wouldCarry_7 : decode cX0_wouldCarry 7 = .ok (.invokevirtual 95, 3) := by decide +kernel
theorem dX0_wouldCarry_10 : decode cX0_wouldCarry 10 = .ok (.if_icmp .le 7, 3) := by decide +kernel
theorem dX0_wouldCarry_13 : decode cX0_wouldCarry 13 = .ok (.iconst 1, 1) := by decide +kernel
theorem dX0_wouldCarry_14 : decode cX0_wouldCarry 14 = .ok (.goto 4, 3) := by decide +kernel
theorem dX0_wouldCarry_17 : decode cX0_wouldCarry 17 = .ok (.iconst 0, 1) := by decide +kernel
theorem dX0_wouldCarry_18 : decode cX0_wouldCarry 18 = .ok (.ireturn, 1) := by decide +kernel
theorem dX0_heaviest_0 : decode cX0_heaviest 0 = .ok (.iconst 0, 1) := by decide +kernel
theorem dX0_heaviest_1 : decode cX0_heaviest 1 = .ok (.istore_n 1, 1) := by decide +kernel
theorem dX0_heaviest_2 : decode cX0_heaviest 2 = .ok (.iconst 1, 1) := by decide +kernel
theorem dX0_heaviest_3 : decode cX0_heaviest 3 = .ok (.istore_n 2, 1) := by decide +kernel
theorem dX0_heaviest_4 : decode cX0_heaviest 4 = .ok (.iload_n 2, 1) := by decide +kernel
theorem dX0_heaviest_5 : decode cX0_heaviest 5 = .ok (.aload_n 0, 1) := by decide +kernel
theorem dX0_heaviest_6 : decode cX0_heaviest 6 = .ok (.getfield 34, 3) := by decide +kernel
theorem dX0_heaviest_9 : decode cX0_heaviest 9 = .ok (.if_icmp .ge 24, 3) := by decide +kernel
theorem dX0_heaviest_12 : decode cX0_heaviest 12 = .ok (.aload_n 0, 1) := by decide +kernel
theorem dX0_heaviest_13 : decode cX0_heaviest 13 = .ok (.iload_n 2, 1) := by decide +kernel
theorem dX0_heaviest_14 : decode cX0_heaviest 14 = .ok (.invokevirtual 98, 3) := by decide +kernel
theorem dX0_heaviest_17 : decode cX0_heaviest 17 = .ok (.aload_n 0, 1) := by decide +kernel
theorem dX0_heaviest_18 : decode cX0_heaviest 18 = .ok (.iload_n 1, 1) := by decide +kernel
theorem dX0_heaviest_19 : decode cX0_heaviest 19 = .ok (.invokevirtual 98, 3) := by decide +kernel
theorem dX0_heaviest_22 : decode cX0_heaviest 22 = .ok (.if_icmp .le 5, 3) := by decide +kernel
theorem dX0_heaviest_25 : decode cX0_heaviest 25 = .ok (.iload_n 2, 1) := by decide +kernel
theorem dX0_heaviest_26 : decode cX0_heaviest 26 = .ok (.istore_n 1, 1) := by decide +kernel
theorem dX0_heaviest_27 : decode cX0_heaviest 27 = .ok (.iinc 2 1, 3) := by decide +kernel
theorem dX0_heaviest_30 : decode cX0_heaviest 30 = .ok (.goto (-26), 3) := by decide +kernel
theorem dX0_heaviest_33 : decode cX0_heaviest 33 = .ok (.iload_n 1, 1) := by decide +kernel
theorem dX0_heaviest_34 : decode cX0_heaviest 34 = .ok (.ireturn, 1) := by decide +kernel
theorem dX0_weightOfKind_0 : decode cX0_weightOfKind 0 = .ok (.iconst 0, 1) := by decide +kernel
theorem dX0_weightOfKind_1 : decode cX0_weightOfKind 1 = .ok (.istore_n 2, 1) := by decide +kernel
theorem dX0_weightOfKind_2 : decode cX0_weightOfKind 2 = .ok (.iconst 0, 1) := by decide +kernel
theorem dX0_weightOfKind_3 : decode cX0_weightOfKind 3 = .ok (.istore_n 3, 1) := by decide +kernel
theorem dX0_weightOfKind_4 : decode cX0_weightOfKind 4 = .ok (.iload_n 3, 1) := by decide +kernel
theorem dX0_weightOfKind_5 : decode cX0_weightOfKind 5 = .ok (.aload_n 0, 1) := by decide +kernel
theorem dX0_weightOfKind_6 : decode cX0_weightOfKind 6 = .ok (.getfield 30, 3) := by decide +kernel
theorem dX0_weightOfKind_9 : decode cX0_weightOfKind 9 = .ok (.if_icmp .ge 27, 3) := by decide +kernel
theorem dX0_weightOfKind_12 : decode cX0_weightOfKind 12 = .ok (.aload_n 0, 1) := by decide +kernel
theorem dX0_weightOfKind_13 : decode cX0_weightOfKind 13 = .ok (.iload_n 3, 1) := by decide +kernel
theorem dX0_weightOfKind_14 : decode cX0_weightOfKind 14 = .ok (.invokevirtual 72, 3) := by decide +kernel
theorem dX0_weightOfKind_17 : decode cX0_weightOfKind 17 = .ok (.iload_n 1, 1) := by decide +kernel
theorem dX0_weightOfKind_18 : decode cX0_weightOfKind 18 = .ok (.if_icmp .ne 12, 3) := by decide +kernel
theorem dX0_weightOfKind_21 : decode cX0_weightOfKind 21 = .ok (.iload_n 2, 1) := by decide +kernel
theorem dX0_weightOfKind_22 : decode cX0_weightOfKind 22 = .ok (.aload_n 0, 1) := by decide +kernel
theorem dX0_weightOfKind_23 : decode cX0_weightOfKind 23 = .ok (.getfield 18, 3) := by decide +kernel
theorem dX0_weightOfKind_26 : decode cX0_weightOfKind 26 = .ok (.iload_n 3, 1) := by decide +kernel
theorem dX0_weightOfKind_27 : decode cX0_weightOfKind 27 = .ok (.iaload, 1) := by decide +kernel
theorem dX0_weightOfKind_28 : decode cX0_weightOfKind 28 = .ok (.iadd, 1) := by decide +kernel
theorem dX0_weightOfKind_29 : decode cX0_weightOfKind 29 = .ok (.istore_n 2, 1) := by decide +kernel
theorem dX0_weightOfKind_30 : decode cX0_weightOfKind 30 = .ok (.iinc 3 1, 3) := by decide +kernel
theorem dX0_weightOfKind_33 : decode cX0_weightOfKind 33 = .ok (.goto (-29), 3) := by decide +kernel
theorem dX0_weightOfKind_36 : decode cX0_weightOfKind 36 = .ok (.iload_n 2, 1) := by decide +kernel
theorem dX0_weightOfKind_37 : decode cX0_weightOfKind 37 = .ok (.ireturn, 1) := by decide +kernel
theorem dX0_ribbons_0 : decode cX0_ribbons 0 = .ok (.iconst 0, 1) := by decide +kernel
theorem dX0_ribbons_1 : decode cX0_ribbons 1 = .ok (.istore_n 1, 1) := by decide +kernel
theorem dX0_ribbons_2 : decode cX0_ribbons 2 = .ok (.iconst 0, 1) := by decide +kernel
theorem dX0_ribbons_3 : decode cX0_ribbons 3 = .ok (.istore_n 2, 1) := by decide +kernel
theorem dX0_ribbons_4 : decode cX0_ribbons 4 = .ok (.iload_n 2, 1) := by decide +kernel
theorem dX0_ribbons_5 : decode cX0_ribbons 5 = .ok (.aload_n 0, 1) := by decide +kernel
theorem dX0_ribbons_6 : decode cX0_ribbons 6 = .ok (.getfield 30, 3) := by decide +kernel
theorem dX0_ribbons_9 : decode cX0_ribbons 9 = .ok (.if_icmp .ge 20, 3) := by decide +kernel
theorem dX0_ribbons_12 : decode cX0_ribbons 12 = .ok (.aload_n 0, 1) := by decide +kernel
theorem dX0_ribbons_13 : decode cX0_ribbons 13 = .ok (.iload_n 2, 1) := by decide +kernel
theorem dX0_ribbons_14 : decode cX0_ribbons 14 = .ok (.invokevirtual 72, 3) := by decide +kernel
theorem dX0_ribbons_17 : decode cX0_ribbons 17 = .ok (.ifCond .eq 6, 3) := by decide +kernel
theorem dX0_ribbons_20 : decode cX0_ribbons 20 = .ok (.iinc 1 1, 3) := by decide +kernel
theorem dX0_ribbons_23 : decode cX0_ribbons 23 = .ok (.iinc 2 1, 3) := by decide +kernel
theorem dX0_ribbons_26 : decode cX0_ribbons 26 = .ok (.goto (-22), 3) := by decide +kernel
theorem dX0_ribbons_29 : decode cX0_ribbons 29 = .ok (.iload_n 1, 1) := by decide +kernel
theorem dX0_ribbons_30 : decode cX0_ribbons 30 = .ok (.ireturn, 1) := by decide +kernel
theorem dX0_spanStepByStep_0 : decode cX0_spanStepByStep 0 = .ok (.iconst 0, 1) := by decide +kernel
theorem dX0_spanStepByStep_1 : decode cX0_spanStepByStep 1 = .ok (.istore_n 1, 1) := by decide +kernel
theorem dX0_spanStepByStep_2 : decode cX0_spanStepByStep 2 = .ok (.iconst 1, 1) := by decide +kernel
theorem dX0_spanStepByStep_3 : decode cX0_spanStepByStep 3 = .ok (.istore_n 2, 1) := by decide +kernel
theorem dX0_spanStepByStep_4 : decode cX0_spanStepByStep 4 = .ok (.iload_n 2, 1) := by decide +kernel
theorem dX0_spanStepByStep_5 : decode cX0_spanStepByStep 5 = .ok (.aload_n 0, 1) := by decide +kernel
theorem dX0_spanStepByStep_6 : decode cX0_spanStepByStep 6 = .ok (.getfield 30, 3) := by decide +kernel
theorem dX0_spanStepByStep_9 : decode cX0_spanStepByStep 9 = .ok (.if_icmp .ge 27, 3) := by decide +kernel
theorem dX0_spanStepByStep_12 : decode cX0_spanStepByStep 12 = .ok (.iload_n 1, 1) := by decide +kernel
theorem dX0_spanStepByStep_13 : decode cX0_spanStepByStep 13 = .ok (.aload_n 0, 1) := by decide +kernel
theorem dX0_spanStepByStep_14 : decode cX0_spanStepByStep 14 = .ok (.getfield 15, 3) := by decide +kernel
theorem dX0_spanStepByStep_17 : decode cX0_spanStepByStep 17 = .ok (.iload_n 2, 1) := by decide +kernel
theorem dX0_spanStepByStep_18 : decode cX0_spanStepByStep 18 = .ok (.iaload, 1) := by decide +kernel
theorem dX0_spanStepByStep_19 : decode cX0_spanStepByStep 19 = .ok (.aload_n 0, 1) := by decide +kernel
theorem dX0_spanStepByStep_20 : decode cX0_spanStepByStep 20 = .ok (.getfield 15, 3) := by decide +kernel
theorem dX0_spanStepByStep_23 : decode cX0_spanStepByStep 23 = .ok (.iload_n 2, 1) := by decide +kernel
theorem dX0_spanStepByStep_24 : decode cX0_spanStepByStep 24 = .ok (.iconst 1, 1) := by decide +kernel
theorem dX0_spanStepByStep_25 : decode cX0_spanStepByStep 25 = .ok (.isub, 1) := by decide +kernel
theorem dX0_spanStepByStep_26 : decode cX0_spanStepByStep 26 = .ok (.iaload, 1) := by decide +kernel
theorem dX0_spanStepByStep_27 : decode cX0_spanStepByStep 27 = .ok (.isub, 1) := by decide +kernel
theorem dX0_spanStepByStep_28 : decode cX0_spanStepByStep 28 = .ok (.iadd, 1) := by decide +kernel
theorem dX0_spanStepByStep_29 : decode cX0_spanStepByStep 29 = .ok (.istore_n 1, 1) := by decide +kernel
theorem dX0_spanStepByStep_30 : decode cX0_spanStepByStep 30 = .ok (.iinc 2 1, 3) := by decide +kernel
theorem dX0_spanStepByStep_33 : decode cX0_spanStepByStep 33 = .ok (.goto (-29), 3) := by decide +kernel
theorem dX0_spanStepByStep_36 : decode cX0_spanStepByStep 36 = .ok (.iload_n 1, 1) := by decide +kernel
theorem dX0_spanStepByStep_37 : decode cX0_spanStepByStep 37 = .ok (.ireturn, 1) := by decide +kernel
theorem dX0_spanEndToEnd_0 : decode cX0_spanEndToEnd 0 = .ok (.aload_n 0, 1) := by decide +kernel
theorem dX0_spanEndToEnd_1 : decode cX0_spanEndToEnd 1 = .ok (.getfield 30, 3) := by decide +kernel
theorem dX0_spanEndToEnd_4 : decode cX0_spanEndToEnd 4 = .ok (.iconst 2, 1) := by decide +kernel
theorem dX0_spanEndToEnd_5 : decode cX0_spanEndToEnd 5 = .ok (.if_icmp .ge 7, 3) := by decide +kernel
theorem dX0_spanEndToEnd_8 : decode cX0_spanEndToEnd 8 = .ok (.iconst 0, 1) := by decide +kernel
theorem dX0_spanEndToEnd_9 : decode cX0_spanEndToEnd 9 = .ok (.goto 21, 3) := by decide +kernel
theorem dX0_spanEndToEnd_12 : decode cX0_spanEndToEnd 12 = .ok (.aload_n 0, 1) := by decide +kernel
theorem dX0_spanEndToEnd_13 : decode cX0_spanEndToEnd 13 = .ok (.getfield 15, 3) := by decide +kernel
theorem dX0_spanEndToEnd_16 : decode cX0_spanEndToEnd 16 = .ok (.aload_n 0, 1) := by decide +kernel
theorem dX0_spanEndToEnd_17 : decode cX0_spanEndToEnd 17 = .ok (.getfield 30, 3) := by decide +kernel
theorem dX0_spanEndToEnd_20 : decode cX0_spanEndToEnd 20 = .ok (.iconst 1, 1) := by decide +kernel
theorem dX0_spanEndToEnd_21 : decode cX0_spanEndToEnd 21 = .ok (.isub, 1) := by decide +kernel
theorem dX0_spanEndToEnd_22 : decode cX0_spanEndToEnd 22 = .ok (.iaload, 1) := by decide +kernel
theorem dX0_spanEndToEnd_23 : decode cX0_spanEndToEnd 23 = .ok (.aload_n 0, 1) := by decide +kernel
theorem dX0_spanEndToEnd_24 : decode cX0_spanEndToEnd 24 = .ok (.getfield 15, 3) := by decide +kernel
theorem dX0_spanEndToEnd_27 : decode cX0_spanEndToEnd 27 = .ok (.iconst 0, 1) := by decide +kernel
theorem dX0_spanEndToEnd_28 : decode cX0_spanEndToEnd 28 = .ok (.iaload, 1) := by decide +kernel
theorem dX0_spanEndToEnd_29 : decode cX0_spanEndToEnd 29 = .ok (.isub, 1) := by decide +kernel
theorem dX0_spanEndToEnd_30 : decode cX0_spanEndToEnd 30 = .ok (.ireturn, 1) := by decide +kernel
theorem dX0_chapterWaysAgree_0 : decode cX0_chapterWaysAgree 0 = .ok (.iconst 0, 1) := by decide +kernel
theorem dX0_chapterWaysAgree_1 : decode cX0_chapterWaysAgree 1 = .ok (.istore_n 1, 1) := by decide +kernel
theorem dX0_chapterWaysAgree_2 : decode cX0_chapterWaysAgree 2 = .ok (.iload_n 1, 1) := by decide +kernel
theorem dX0_chapterWaysAgree_3 : decode cX0_chapterWaysAgree 3 = .ok (.aload_n 0, 1) := by decide +kernel
theorem dX0_chapterWaysAgree_4 : decode cX0_chapterWaysAgree 4 = .ok (.getfield 34, 3) := by decide +kernel
theorem dX0_chapterWaysAgree_7 : decode cX0_chapterWaysAgree 7 = .ok (.if_icmp .ge 39, 3) := by decide +kernel
theorem dX0_chapterWaysAgree_10 : decode cX0_chapterWaysAgree 10 = .ok (.aload_n 0, 1) := by decide +kernel
theorem dX0_chapterWaysAgree_11 : decode cX0_chapterWaysAgree 11 = .ok (.iload_n 1, 1) := by decide +kernel
theorem dX0_chapterWaysAgree_12 : decode cX0_chapterWaysAgree 12 = .ok (.invokevirtual 101, 3) := by decide +kernel
theorem dX0_chapterWaysAgree_15 : decode cX0_chapterWaysAgree 15 = .ok (.aload_n 0, 1) := by decide +kernel
theorem dX0_chapterWaysAgree_16 : decode cX0_chapterWaysAgree 16 = .ok (.iload_n 1, 1) := by decide +kernel
theorem dX0_chapterWaysAgree_17 : decode cX0_chapterWaysAgree 17 = .ok (.invokevirtual 104, 3) := by decide +kernel
theorem dX0_chapterWaysAgree_20 : decode cX0_chapterWaysAgree 20 = .ok (.if_icmp .eq 5, 3) := by decide +kernel
theorem dX0_chapterWaysAgree_23 : decode cX0_chapterWaysAgree 23 = .ok (.iconst 0, 1) := by decide +kernel
theorem dX0_chapterWaysAgree_24 : decode cX0_chapterWaysAgree 24 = .ok (.ireturn, 1) := by decide +kernel
theorem dX0_chapterWaysAgree_25 : decode cX0_chapterWaysAgree 25 = .ok (.aload_n 0, 1) := by decide +kernel
theorem dX0_chapterWaysAgree_26 : decode cX0_chapterWaysAgree 26 = .ok (.iload_n 1, 1) := by decide +kernel
theorem dX0_chapterWaysAgree_27 : decode cX0_chapterWaysAgree 27 = .ok (.invokevirtual 95, 3) := by decide +kernel
theorem dX0_chapterWaysAgree_30 : decode cX0_chapterWaysAgree 30 = .ok (.aload_n 0, 1) := by decide +kernel
theorem dX0_chapterWaysAgree_31 : decode cX0_chapterWaysAgree 31 = .ok (.iload_n 1, 1) := by decide +kernel
theorem dX0_chapterWaysAgree_32 : decode cX0_chapterWaysAgree 32 = .ok (.invokevirtual 107, 3) := by decide +kernel
theorem dX0_chapterWaysAgree_35 : decode cX0_chapterWaysAgree 35 = .ok (.if_icmp .eq 5, 3) := by decide +kernel
theorem dX0_chapterWaysAgree_38 : decode cX0_chapterWaysAgree 38 = .ok (.iconst 0, 1) := by decide +kernel
theorem dX0_chapterWaysAgree_39 : decode cX0_chapterWaysAgree 39 = .ok (.ireturn, 1) := by decide +kernel
theorem dX0_chapterWaysAgree_40 : decode cX0_chapterWaysAgree 40 = .ok (.iinc 1 1, 3) := by decide +kernel
theorem dX0_chapterWaysAgree_43 : decode cX0_chapterWaysAgree 43 = .ok (.goto (-41), 3) := by decide +kernel
theorem dX0_chapterWaysAgree_46 : decode cX0_chapterWaysAgree 46 = .ok (.iconst 1, 1) := by decide +kernel
theorem dX0_chapterWaysAgree_47 : decode cX0_chapterWaysAgree 47 = .ok (.ireturn, 1) := by decide +kernel
theorem dX0_pagesDiffer_0 : decode cX0_pagesDiffer 0 = .ok (.iconst 0, 1) := by decide +kernel
theorem dX0_pagesDiffer_1 : decode cX0_pagesDiffer 1 = .ok (.istore_n 1, 1) := by decide +kernel
theorem dX0_pagesDiffer_2 : decode cX0_pagesDiffer 2 = .ok (.iload_n 1, 1) := by decide +kernel
theorem dX0_pagesDiffer_3 : decode cX0_pagesDiffer 3 = .ok (.aload_n 0, 1) := by decide +kernel
theorem dX0_pagesDiffer_4 : decode cX0_pagesDiffer 4 = .ok (.getfield 30, 3) := by decide +kernel
theorem dX0_pagesDiffer_7 : decode cX0_pagesDiffer 7 = .ok (.if_icmp .ge 25, 3) := by decide +kernel
theorem dX0_pagesDiffer_10 : decode cX0_pagesDiffer 10 = .ok (.aload_n 0, 1) := by decide +kernel
theorem dX0_pagesDiffer_11 : decode cX0_pagesDiffer 11 = .ok (.aload_n 0, 1) := by decide +kernel
theorem dX0_pagesDiffer_12 : decode cX0_pagesDiffer 12 = .ok (.getfield 15, 3) := by decide +kernel
theorem dX0_pagesDiffer_15 : decode cX0_pagesDiffer 15 = .ok (.iload_n 1, 1) := by decide +kernel
theorem dX0_pagesDiffer_16 : decode cX0_pagesDiffer 16 = .ok (.iaload, 1) := by decide +kernel
theorem dX0_pagesDiffer_17 : decode cX0_pagesDiffer 17 = .ok (.invokevirtual 82, 3) := by decide +kernel
theorem dX0_pagesDiffer_20 : decode cX0_pagesDiffer 20 = .ok (.iload_n 1, 1) := by decide +kernel
theorem dX0_pagesDiffer_21 : decode cX0_pagesDiffer 21 = .ok (.if_icmp .eq 5, 3) := by decide +kernel
theorem dX0_pagesDiffer_24 : decode cX0_pagesDiffer 24 = .ok (.iconst 0, 1) := by decide +kernel
theorem dX0_pagesDiffer_25 : decode cX0_pagesDiffer 25 = .ok (.ireturn, 1) := by decide +kernel
theorem dX0_pagesDiffer_26 : decode cX0_pagesDiffer 26 = .ok (.iinc 1 1, 3) := by decide +kernel
theorem dX0_pagesDiffer_29 : decode cX0_pagesDiffer 29 = .ok (.goto (-27), 3) := by decide +kernel
theorem dX0_pagesDiffer_32 : decode cX0_pagesDiffer 32 = .ok (.iconst 1, 1) := by decide +kernel
theorem dX0_pagesDiffer_33 : decode cX0_pagesDiffer 33 = .ok (.ireturn, 1) := by decide +kernel
theorem dX0_seatsDiffer_0 : decode cX0_seatsDiffer 0 = .ok (.iconst 0, 1) := by decide +kernel
theorem dX0_seatsDiffer_1 : decode cX0_seatsDiffer 1 = .ok (.istore_n 1, 1) := by decide +kernel
theorem dX0_seatsDiffer_2 : decode cX0_seatsDiffer 2 = .ok (.iload_n 1, 1) := by decide +kernel
theorem dX0_seatsDiffer_3 : decode cX0_seatsDiffer 3 = .ok (.aload_n 0, 1) := by decide +kernel
theorem dX0_seatsDiffer_4 : decode cX0_seatsDiffer 4 = .ok (.getfield 30, 3) := by decide +kernel
theorem dX0_seatsDiffer_7 : decode cX0_seatsDiffer 7 = .ok (.if_icmp .ge 33, 3) := by decide +kernel
theorem dX0_seatsDiffer_10 : decode cX0_seatsDiffer 10 = .ok (.aload_n 0, 1) := by decide +kernel
theorem dX0_seatsDiffer_11 : decode cX0_seatsDiffer 11 = .ok (.iload_n 1, 1) := by decide +kernel
theorem dX0_seatsDiffer_12 : decode cX0_seatsDiffer 12 = .ok (.invokevirtual 72, 3) := by decide +kernel
theorem dX0_seatsDiffer_15 : decode cX0_seatsDiffer 15 = .ok (.ifCond .eq 19, 3) := by decide +kernel
theorem dX0_seatsDiffer_18 : decode cX0_seatsDiffer 18 = .ok (.aload_n 0, 1) := by decide +kernel
theorem dX0_seatsDiffer_19 : decode cX0_seatsDiffer 19 = .ok (.aload_n 0, 1) := by decide +kernel
theorem dX0_seatsDiffer_20 : decode cX0_seatsDiffer 20 = .ok (.getfield 24, 3) := by decide +kernel
theorem dX0_seatsDiffer_23 : decode cX0_seatsDiffer 23 = .ok (.iload_n 1, 1) := by decide +kernel
theorem dX0_seatsDiffer_24 : decode cX0_seatsDiffer 24 = .ok (.iaload, 1) := by decide +kernel
theorem dX0_seatsDiffer_25 : decode cX0_seatsDiffer 25 = .ok (.invokevirtual 76, 3) := by decide +kernel
theorem dX0_seatsDiffer_28 : decode cX0_seatsDiffer 28 = .ok (.iload_n 1, 1) := by decide +kernel
theorem dX0_seatsDiffer_29 : decode cX0_seatsDiffer 29 = .ok (.if_icmp .eq 5, 3) := by decide +kernel
theorem dX0_seatsDiffer_32 : decode cX0_seatsDiffer 32 = .ok (.iconst 0, 1) := by decide +kernel
theorem dX0_seatsDiffer_33 : decode cX0_seatsDiffer 33 = .ok (.ireturn, 1) := by decide +kernel
theorem dX0_seatsDiffer_34 : decode cX0_seatsDiffer 34 = .ok (.iinc 1 1, 3) := by decide +kernel
theorem dX0_seatsDiffer_37 : decode cX0_seatsDiffer 37 = .ok (.goto (-35), 3) := by decide +kernel
theorem dX0_seatsDiffer_40 : decode cX0_seatsDiffer 40 = .ok (.iconst 1, 1) := by decide +kernel
theorem dX0_seatsDiffer_41 : decode cX0_seatsDiffer 41 = .ok (.ireturn, 1) := by decide +kernel
theorem dX0_reasonAgainstRibbon_0 : decode cX0_reasonAgainstRibbon 0 = .ok (.aload_n 0, 1) := by decide +kernel
theorem dX0_reasonAgainstRibbon_1 : decode cX0_reasonAgainstRibbon 1 = .ok (.getfield 30, 3) := by decide +kernel
theorem dX0_reasonAgainstRibbon_4 : decode cX0_reasonAgainstRibbon 4 = .ok (.bipush 12, 2) := by decide +kernel
theorem dX0_reasonAgainstRibbon_6 : decode cX0_reasonAgainstRibbon 6 = .ok (.if_icmp .lt 5, 3) := by decide +kernel
theorem dX0_reasonAgainstRibbon_9 : decode cX0_reasonAgainstRibbon 9 = .ok (.iconst 1, 1) := by decide +kernel
theorem dX0_reasonAgainstRibbon_10 : decode cX0_reasonAgainstRibbon 10 = .ok (.ireturn, 1) := by decide +kernel
theorem dX0_reasonAgainstRibbon_11 : decode cX0_reasonAgainstRibbon 11 = .ok (.aload_n 0, 1) := by decide +kernel
theorem dX0_reasonAgainstRibbon_12 : decode cX0_reasonAgainstRibbon 12 = .ok (.invokevirtual 141, 3) := by decide +kernel
theorem dX0_reasonAgainstRibbon_15 : decode cX0_reasonAgainstRibbon 15 = .ok (.iconst (-1), 1) := by decide +kernel
theorem dX0_reasonAgainstRibbon_16 : decode cX0_reasonAgainstRibbon 16 = .ok (.if_icmp .ne 5, 3) := by decide +kernel
theorem dX0_reasonAgainstRibbon_19 : decode cX0_reasonAgainstRibbon 19 = .ok (.iconst 2, 1) := by decide +kernel
theorem dX0_reasonAgainstRibbon_20 : decode cX0_reasonAgainstRibbon 20 = .ok (.ireturn, 1) := by decide +kernel
theorem dX0_reasonAgainstRibbon_21 : decode cX0_reasonAgainstRibbon 21 = .ok (.aload_n 0, 1) := by decide +kernel
theorem dX0_reasonAgainstRibbon_22 : decode cX0_reasonAgainstRibbon 22 = .ok (.iload_n 1, 1) := by decide +kernel
theorem dX0_reasonAgainstRibbon_23 : decode cX0_reasonAgainstRibbon 23 = .ok (.invokevirtual 82, 3) := by decide +kernel
theorem dX0_reasonAgainstRibbon_26 : decode cX0_reasonAgainstRibbon 26 = .ok (.iconst (-1), 1) := by decide +kernel
theorem dX0_reasonAgainstRibbon_27 : decode cX0_reasonAgainstRibbon 27 = .ok (.if_icmp .eq 7, 3) := by decide +kernel
theorem dX0_reasonAgainstRibbon_30 : decode cX0_reasonAgainstRibbon 30 = .ok (.iconst 3, 1) := by decide +kernel
theorem dX0_reasonAgainstRibbon_31 : decode cX0_reasonAgainstRibbon 31 = .ok (.goto 4, 3) := by decide +kernel
theorem dX0_reasonAgainstRibbon_34 : decode cX0_reasonAgainstRibbon 34 = .ok (.iconst 0, 1) := by decide +kernel
theorem dX0_reasonAgainstRibbon_35 : decode cX0_reasonAgainstRibbon 35 = .ok (.ireturn, 1) := by decide +kernel
theorem dX0_reasonAgainstEar_0 : decode cX0_reasonAgainstEar 0 = .ok (.aload_n 0, 1) := by decide +kernel
theorem dX0_reasonAgainstEar_1 : decode cX0_reasonAgainstEar 1 = .ok (.getfield 30, 3) := by decide +kernel
theorem dX0_reasonAgainstEar_4 : decode cX0_reasonAgainstEar 4 = .ok (.bipush 12, 2) := by decide +kernel
theorem dX0_reasonAgainstEar_6 : decode cX0_reasonAgainstEar 6 = .ok (.if_icmp .lt 5, 3) := by decide +kernel
theorem dX0_reasonAgainstEar_9 : decode cX0_reasonAgainstEar 9 = .ok (.iconst 1, 1) := by decide +kernel
theorem dX0_reasonAgainstEar_10 : decode cX0_reasonAgainstEar 10 = .ok (.ireturn, 1) := by decide +kernel
theorem dX0_reasonAgainstEar_11 : decode cX0_reasonAgainstEar 11 = .ok (.aload_n 0, 1) := by decide +kernel
theorem dX0_reasonAgainstEar_12 : decode cX0_reasonAgainstEar 12 = .ok (.iload_n 1, 1) := by decide +kernel
theorem dX0_reasonAgainstEar_13 : decode cX0_reasonAgainstEar 13 = .ok (.invokevirtual 82, 3) := by decide +kernel
theorem dX0_reasonAgainstEar_16 : decode cX0_reasonAgainstEar 16 = .ok (.iconst (-1), 1) := by decide +kernel
theorem dX0_reasonAgainstEar_17 : decode cX0_reasonAgainstEar 17 = .ok (.if_icmp .eq 7, 3) := by decide +kernel
theorem dX0_reasonAgainstEar_20 : decode cX0_reasonAgainstEar 20 = .ok (.iconst 3, 1) := by decide +kernel
theorem dX0_reasonAgainstEar_21 : decode cX0_reasonAgainstEar 21 = .ok (.goto 4, 3) := by decide +kernel
theorem dX0_reasonAgainstEar_24 : decode cX0_reasonAgainstEar 24 = .ok (.iconst 0, 1) := by decide +kernel
theorem dX0_reasonAgainstEar_25 : decode cX0_reasonAgainstEar 25 = .ok (.ireturn, 1) := by decide +kernel
theorem dX0_isRibbonId_0 : decode cX0_isRibbonId 0 = .ok (.aload_n 0, 1) := by decide +kernel
theorem dX0_isRibbonId_1 : decode cX0_isRibbonId 1 = .ok (.iload_n 1, 1) := by decide +kernel
theorem dX0_isRibbonId_2 : decode cX0_isRibbonId 2 = .ok (.invokevirtual 116, 3) := by decide +kernel
theorem dX0_isRibbonId_5 : decode cX0_isRibbonId 5 = .ok (.istore_n 2, 1) := by decide +kernel
theorem dX0_isRibbonId_6 : decode cX0_isRibbonId 6 = .ok (.iload_n 2, 1) := by decide +kernel
theorem dX0_isRibbonId_7 : decode cX0_isRibbonId 7 = .ok (.iconst (-1), 1) := by decide +kernel
theorem dX0_isRibbonId_8 : decode cX0_isRibbonId 8 = .ok (.if_icmp .eq 15, 3) := by decide +kernel
theorem dX0_isRibbonId_11 : decode cX0_isRibbonId 11 = .ok (.aload_n 0, 1) := by decide +kernel
theorem dX0_isRibbonId_12 : decode cX0_isRibbonId 12 = .ok (.iload_n 2, 1) := by decide +kernel
theorem dX0_isRibbonId_13 : decode cX0_isRibbonId 13 = .ok (.invokevirtual 72, 3) := by decide +kernel
theorem dX0_isRibbonId_16 : decode cX0_isRibbonId 16 = .ok (.ifCond .eq 7, 3) := by decide +kernel
theorem dX0_isRibbonId_19 : decode cX0_isRibbonId 19 = .ok (.iconst 1, 1) := by decide +kernel
theorem dX0_isRibbonId_20 : decode cX0_isRibbonId 20 = .ok (.goto 4, 3) := by decide +kernel
theorem dX0_isRibbonId_23 : decode cX0_isRibbonId 23 = .ok (.iconst 0, 1) := by decide +kernel
theorem dX0_isRibbonId_24 : decode cX0_isRibbonId 24 = .ok (.ireturn, 1) := by decide +kernel
theorem dX0_reasonAgainstMove_0 : decode cX0_reasonAgainstMove 0 = .ok (.aload_n 0, 1) := by decide +kernel
theorem dX0_reasonAgainstMove_1 : decode cX0_reasonAgainstMove 1 = .ok (.iload_n 1, 1) := by decide +kernel
theorem dX0_reasonAgainstMove_2 : decode cX0_reasonAgainstMove 2 = .ok (.invokevirtual 144, 3) := by decide +kernel
theorem dX0_reasonAgainstMove_5 : decode cX0_reasonAgainstMove 5 = .ok (.ifCond .ne 5, 3) := by decide +kernel
theorem dX0_reasonAgainstMove_8 : decode cX0_reasonAgainstMove 8 = .ok (.iconst 4, 1) := by decide +kernel
theorem dX0_reasonAgainstMove_9 : decode cX0_reasonAgainstMove 9 = .ok (.ireturn, 1) := by decide +kernel
theorem dX0_reasonAgainstMove_10 : decode cX0_reasonAgainstMove 10 = .ok (.aload_n 0, 1) := by decide +kernel
theorem dX0_reasonAgainstMove_11 : decode cX0_reasonAgainstMove 11 = .ok (.iload_n 2, 1) := by decide +kernel
theorem dX0_reasonAgainstMove_12 : decode cX0_reasonAgainstMove 12 = .ok (.invokevirtual 82, 3) := by decide +kernel
theorem dX0_reasonAgainstMove_15 : decode cX0_reasonAgainstMove 15 = .ok (.iconst (-1), 1) := by decide +kernel
theorem dX0_reasonAgainstMove_16 : decode cX0_reasonAgainstMove 16 = .ok (.if_icmp .eq 7, 3) := by decide +kernel
theorem dX0_reasonAgainstMove_19 : decode cX0_reasonAgainstMove 19 = .ok (.iconst 3, 1) := by decide +kernel
theorem dX0_reasonAgainstMove_20 : decode cX0_reasonAgainstMove 20 = .ok (.goto 4, 3) := by decide +kernel
theorem dX0_reasonAgainstMove_23 : decode cX0_reasonAgainstMove 23 = .ok (.iconst 0, 1) := by decide +kernel
theorem dX0_reasonAgainstMove_24 : decode cX0_reasonAgainstMove 24 = .ok (.ireturn, 1) := by decide +kernel
theorem dX0_reasonAgainstSwap_0 : decode cX0_reasonAgainstSwap 0 = .ok (.aload_n 0, 1) := by decide +kernel
theorem dX0_reasonAgainstSwap_1 : decode cX0_reasonAgainstSwap 1 = .ok (.iload_n 1, 1) := by decide +kernel
theorem dX0_reasonAgainstSwap_2 : decode cX0_reasonAgainstSwap 2 = .ok (.invokevirtual 144, 3) := by decide +kernel
theorem dX0_reasonAgainstSwap_5 : decode cX0_reasonAgainstSwap 5 = .ok (.ifCond .eq 11, 3) := by decide +kernel
theorem dX0_reasonAgainstSwap_8 : decode cX0_reasonAgainstSwap 8 = .ok (.aload_n 0, 1) := by decide +kernel
theorem dX0_reasonAgainstSwap_9 : decode cX0_reasonAgainstSwap 9 = .ok (.iload_n 2, 1) := by decide +kernel
theorem dX0_reasonAgainstSwap_10 : decode cX0_reasonAgainstSwap 10 = .ok (.invokevirtual 144, 3) := by decide +kernel
theorem dX0_reasonAgainstSwap_13 : decode cX0_reasonAgainstSwap 13 = .ok (.ifCond .ne 5, 3) := by decide +kernel
theorem dX0_reasonAgainstSwap_16 : decode cX0_reasonAgainstSwap 16 = .ok (.iconst 4, 1) := by decide +kernel
theorem dX0_reasonAgainstSwap_17 : decode cX0_reasonAgainstSwap 17 = .ok (.ireturn, 1) := by decide +kernel
theorem dX0_reasonAgainstSwap_18 : decode cX0_reasonAgainstSwap 18 = .ok (.iload_n 1, 1) := by decide +kernel
theorem dX0_reasonAgainstSwap_19 : decode cX0_reasonAgainstSwap 19 = .ok (.iload_n 2, 1) := by decide +kernel
theorem dX0_reasonAgainstSwap_20 : decode cX0_reasonAgainstSwap 20 = .ok (.if_icmp .ne 7, 3) := by decide +kernel
theorem dX0_reasonAgainstSwap_23 : decode cX0_reasonAgainstSwap 23 = .ok (.iconst 5, 1) := by decide +kernel
theorem dX0_reasonAgainstSwap_24 : decode cX0_reasonAgainstSwap 24 = .ok (.goto 4, 3) := by decide +kernel
theorem dX0_reasonAgainstSwap_27 : decode cX0_reasonAgainstSwap 27 = .ok (.iconst 0, 1) := by decide +kernel
theorem dX0_reasonAgainstSwap_28 : decode cX0_reasonAgainstSwap 28 = .ok (.ireturn, 1) := by decide +kernel
theorem dX0_reasonAgainstStart_0 : decode cX0_reasonAgainstStart 0 = .ok (.aload_n 0, 1) := by decide +kernel
theorem dX0_reasonAgainstStart_1 : decode cX0_reasonAgainstStart 1 = .ok (.getfield 34, 3) := by decide +kernel
theorem dX0_reasonAgainstStart_4 : decode cX0_reasonAgainstStart 4 = .ok (.bipush 8, 2) := by decide +kernel
theorem dX0_reasonAgainstStart_6 : decode cX0_reasonAgainstStart 6 = .ok (.if_icmp .lt 6, 3) := by decide +kernel
theorem dX0_reasonAgainstStart_9 : decode cX0_reasonAgainstStart 9 = .ok (.bipush 6, 2) := by decide +kernel
theorem dX0_reasonAgainstStart_11 : decode cX0_reasonAgainstStart 11 = .ok (.ireturn, 1) := by decide +kernel
theorem dX0_reasonAgainstStart_12 : decode cX0_reasonAgainstStart 12 = .ok (.aload_n 0, 1) := by decide +kernel
theorem dX0_reasonAgainstStart_13 : decode cX0_reasonAgainstStart 13 = .ok (.getfield 27, 3) := by decide +kernel
theorem dX0_reasonAgainstStart_16 : decode cX0_reasonAgainstStart 16 = .ok (.aload_n 0, 1) := by decide +kernel
theorem dX0_reasonAgainstStart_17 : decode cX0_reasonAgainstStart 17 = .ok (.iload_n 1, 1) := by decide +kernel
theorem dX0_reasonAgainstStart_18 : decode cX0_reasonAgainstStart 18 = .ok (.invokevirtual 147, 3) := by decide +kernel
theorem dX0_reasonAgainstStart_21 : decode cX0_reasonAgainstStart 21 = .ok (.iaload, 1) := by decide +kernel
theorem dX0_reasonAgainstStart_22 : decode cX0_reasonAgainstStart 22 = .ok (.iload_n 1, 1) := by decide +kernel
theorem dX0_reasonAgainstStart_23 : decode cX0_reasonAgainstStart 23 = .ok (.if_icmp .ne 8, 3) := by decide +kernel
theorem dX0_reasonAgainstStart_26 : decode cX0_reasonAgainstStart 26 = .ok (.bipush 7, 2) := by decide +kernel
theorem dX0_reasonAgainstStart_28 : decode cX0_reasonAgainstStart 28 = .ok (.goto 4, 3) := by decide +kernel
theorem dX0_reasonAgainstStart_31 : decode cX0_reasonAgainstStart 31 = .ok (.iconst 0, 1) := by decide +kernel
theorem dX0_reasonAgainstStart_32 : decode cX0_reasonAgainstStart 32 = .ok (.ireturn, 1) := by decide +kernel
theorem dX0_reasonAgainst_0 : decode cX0_reasonAgainst 0 = .ok (.iload_n 1, 1) := by decide +kernel
theorem dX0_reasonAgainst_1 : decode cX0_reasonAgainst 1 = .ok (.tableswitch 186 66 86 #[166, 125, 186, 105, 186, 186, 186, 186, 186, 186, 186, 111, 186, 186, 186, 186, 99, 118, 146, 186, 131], 99) := by decide +kernel
theorem dX0_reasonAgainst_100 : decode cX0_reasonAgainst 100 = .ok (.aload_n 0, 1) := by decide +kernel
theorem dX0_reasonAgainst_101 : decode cX0_reasonAgainst 101 = .ok (.iload_n 2, 1) := by decide +kernel
theorem dX0_reasonAgainst_102 : decode cX0_reasonAgainst 102 = .ok (.invokevirtual 125, 3) := by decide +kernel
theorem dX0_reasonAgainst_105 : decode cX0_reasonAgainst 105 = .ok (.ireturn, 1) := by decide +kernel
theorem dX0_reasonAgainst_106 : decode cX0_reasonAgainst 106 = .ok (.aload_n 0, 1) := by decide +kernel
theorem dX0_reasonAgainst_107 : decode cX0_reasonAgainst 107 = .ok (.iload_n 2, 1) := by decide +kernel
theorem dX0_reasonAgainst_108 : decode cX0_reasonAgainst 108 = .ok (.invokevirtual 128, 3) := by decide +kernel
theorem dX0_reasonAgainst_111 : decode cX0_reasonAgainst 111 = .ok (.ireturn, 1) := by decide +kernel
theorem dX0_reasonAgainst_112 : decode cX0_reasonAgainst 112 = .ok (.aload_n 0, 1) := by decide +kernel
theorem dX0_reasonAgainst_113 : decode cX0_reasonAgainst 113 = .ok (.iload_n 2, 1) := by decide +kernel
theorem dX0_reasonAgainst_114 : decode cX0_reasonAgainst 114 = .ok (.iload_n 3, 1) := by decide +kernel
theorem dX0_reasonAgainst_115 : decode cX0_reasonAgainst 115 = .ok (.invokevirtual 131, 3) := by decide +kernel
theorem dX0_reasonAgainst_118 : decode cX0_reasonAgainst 118 = .ok (.ireturn, 1) := by decide +kernel
theorem dX0_reasonAgainst_119 : decode cX0_reasonAgainst 119 = .ok (.aload_n 0, 1) := by decide +kernel
theorem dX0_reasonAgainst_120 : decode cX0_reasonAgainst 120 = .ok (.iload_n 2, 1) := by decide +kernel
theorem dX0_reasonAgainst_121 : decode cX0_reasonAgainst 121 = .ok (.iload_n 3, 1) := by decide +kernel
theorem dX0_reasonAgainst_122 : decode cX0_reasonAgainst 122 = .ok (.invokevirtual 135, 3) := by decide +kernel
theorem dX0_reasonAgainst_125 : decode cX0_reasonAgainst 125 = .ok (.ireturn, 1) := by decide +kernel
theorem dX0_reasonAgainst_126 : decode cX0_reasonAgainst 126 = .ok (.aload_n 0, 1) := by decide +kernel
theorem dX0_reasonAgainst_127 : decode cX0_reasonAgainst 127 = .ok (.iload_n 2, 1) := by decide +kernel
theorem dX0_reasonAgainst_128 : decode cX0_reasonAgainst 128 = .ok (.invokevirtual 138, 3) := by decide +kernel
theorem dX0_reasonAgainst_131 : decode cX0_reasonAgainst 131 = .ok (.ireturn, 1) := by decide +kernel
theorem dX0_reasonAgainst_132 : decode cX0_reasonAgainst 132 = .ok (.aload_n 0, 1) := by decide +kernel
theorem dX0_reasonAgainst_133 : decode cX0_reasonAgainst 133 = .ok (.getfield 34, 3) := by decide +kernel
theorem dX0_reasonAgainst_136 : decode cX0_reasonAgainst 136 = .ok (.iconst 1, 1) := by decide +kernel
theorem dX0_reasonAgainst_137 : decode cX0_reasonAgainst 137 = .ok (.if_icmp .ne 8, 3) := by decide +kernel
theorem dX0_reasonAgainst_140 : decode cX0_reasonAgainst 140 = .ok (.bipush 8, 2) := by decide +kernel
theorem dX0_reasonAgainst_142 : decode cX0_reasonAgainst 142 = .ok (.goto 4, 3) := by decide +kernel
theorem dX0_reasonAgainst_145 : decode cX0_reasonAgainst 145 = .ok (.iconst 0, 1) := by decide +kernel
theorem dX0_reasonAgainst_146 : decode cX0_reasonAgainst 146 = .ok (.ireturn, 1) := by decide +kernel
theorem dX0_reasonAgainst_147 : decode cX0_reasonAgainst 147 = .ok (.aload_n 0, 1) := by decide +kernel
theorem dX0_reasonAgainst_148 : decode cX0_reasonAgainst 148 = .ok (.aload_n 0, 1) := by decide +kernel
theorem dX0_reasonAgainst_149 : decode cX0_reasonAgainst 149 = .ok (.getfield 37, 3) := by decide +kernel
theorem dX0_reasonAgainst_152 : decode cX0_reasonAgainst 152 = .ok (.iload_n 2, 1) := by decide +kernel
theorem dX0_reasonAgainst_153 : decode cX0_reasonAgainst 153 = .ok (.iadd, 1) := by decide +kernel
theorem dX0_reasonAgainst_154 : decode cX0_reasonAgainst 154 = .ok (.invokevirtual 110, 3) := by decide +kernel
theorem dX0_reasonAgainst_157 : decode cX0_reasonAgainst 157 = .ok (.ifCond .eq 7, 3) := by decide +kernel
theorem dX0_reasonAgainst_160 : decode cX0_reasonAgainst 160 = .ok (.iconst 0, 1) := by decide +kernel
theorem dX0_reasonAgainst_161 : decode cX0_reasonAgainst 161 = .ok (.goto 5, 3) := by decide +kernel
theorem dX0_reasonAgainst_164 : decode cX0_reasonAgainst 164 = .ok (.bipush 9, 2) := by decide +kernel
theorem dX0_reasonAgainst_166 : decode cX0_reasonAgainst 166 = .ok (.ireturn, 1) := by decide +kernel
theorem dX0_reasonAgainst_167 : decode cX0_reasonAgainst 167 = .ok (.aload_n 0, 1) := by decide +kernel
theorem dX0_reasonAgainst_168 : decode cX0_reasonAgainst 168 = .ok (.aload_n 0, 1) := by decide +kernel
theorem dX0_reasonAgainst_169 : decode cX0_reasonAgainst 169 = .ok (.getfield 37, 3) := by decide +kernel
theorem dX0_reasonAgainst_172 : decode cX0_reasonAgainst 172 = .ok (.iload_n 2, 1) := by decide +kernel
theorem dX0_reasonAgainst_173 : decode cX0_reasonAgainst 173 = .ok (.isub, 1) := by decide +kernel
theorem dX0_reasonAgainst_174 : decode cX0_reasonAgainst 174 = .ok (.invokevirtual 110, 3) := by decide +kernel
theorem dX0_reasonAgainst_177 : decode cX0_reasonAgainst 177 = .ok (.ifCond .eq 7, 3) := by decide +kernel
theorem dX0_reasonAgainst_180 : decode cX0_reasonAgainst 180 = .ok (.iconst 0, 1) := by decide +kernel
theorem dX0_reasonAgainst_181 : decode cX0_reasonAgainst 181 = .ok (.goto 5, 3) := by decide +kernel
theorem dX0_reasonAgainst_184 : decode cX0_reasonAgainst 184 = .ok (.bipush 9, 2) := by decide +kernel
theorem dX0_reasonAgainst_186 : decode cX0_reasonAgainst 186 = .ok (.ireturn, 1) := by decide +kernel
theorem dX0_reasonAgainst_187 : decode cX0_reasonAgainst 187 = .ok (.iconst 0, 1) := by decide +kernel
theorem dX0_reasonAgainst_188 : decode cX0_reasonAgainst 188 = .ok (.ireturn, 1) := by decide +kernel
theorem dX0_idOnPage_0 : decode cX0_idOnPage 0 = .ok (.aload_n 0, 1) := by decide +kernel
theorem dX0_idOnPage_1 : decode cX0_idOnPage 1 = .ok (.iload_n 1, 1) := by decide +kernel
theorem dX0_idOnPage_2 : decode cX0_idOnPage 2 = .ok (.invokevirtual 82, 3) := by decide +kernel
theorem dX0_idOnPage_5 : decode cX0_idOnPage 5 = .ok (.istore_n 2, 1) := by decide +kernel
theorem dX0_idOnPage_6 : decode cX0_idOnPage 6 = .ok (.iload_n 2, 1) := by decide +kernel
theorem dX0_idOnPage_7 : decode cX0_idOnPage 7 = .ok (.iconst (-1), 1) := by decide +kernel
theorem dX0_idOnPage_8 : decode cX0_idOnPage 8 = .ok (.if_icmp .ne 7, 3) := by decide +kernel
theorem dX0_idOnPage_11 : decode cX0_idOnPage 11 = .ok (.iconst (-1), 1) := by decide +kernel
theorem dX0_idOnPage_12 : decode cX0_idOnPage 12 = .ok (.goto 9, 3) := by decide +kernel
theorem dX0_idOnPage_15 : decode cX0_idOnPage 15 = .ok (.aload_n 0, 1) := by decide +kernel
theorem dX0_idOnPage_16 : decode cX0_idOnPage 16 = .ok (.getfield 9, 3) := by decide +kernel
theorem dX0_idOnPage_19 : decode cX0_idOnPage 19 = .ok (.iload_n 2, 1) := by decide +kernel
theorem dX0_idOnPage_20 : decode cX0_idOnPage 20 = .ok (.iaload, 1) := by decide +kernel
theorem dX0_idOnPage_21 : decode cX0_idOnPage 21 = .ok (.ireturn, 1) := by decide +kernel
theorem dX0_detailOf_0 : decode cX0_detailOf 0 = .ok (.iload_n 1, 1) := by decide +kernel
theorem dX0_detailOf_1 : decode cX0_detailOf 1 = .ok (.tableswitch 104 1 9 #[51, 54, 59, 76, 91, 56, 93, 104, 99], 51) := by decide +kernel
theorem dX0_detailOf_52 : decode cX0_detailOf 52 = .ok (.bipush 12, 2) := by decide +kernel
theorem dX0_detailOf_54 : decode cX0_detailOf 54 = .ok (.ireturn, 1) := by decide +kernel
theorem dX0_detailOf_55 : decode cX0_detailOf 55 = .ok (.iconst 5, 1) := by decide +kernel
theorem dX0_detailOf_56 : decode cX0_detailOf 56 = .ok (.ireturn, 1) := by decide +kernel
theorem dX0_detailOf_57 : decode cX0_detailOf 57 = .ok (.bipush 8, 2) := by decide +kernel
theorem dX0_detailOf_59 : decode cX0_detailOf 59 = .ok (.ireturn, 1) := by decide +kernel
theorem dX0_detailOf_60 : decode cX0_detailOf 60 = .ok (.aload_n 0, 1) := by decide +kernel
theorem dX0_detailOf_61 : decode cX0_detailOf 61 = .ok (.iload_n 2, 1) := by decide +kernel
theorem dX0_detailOf_62 : decode cX0_detailOf 62 = .ok (.bipush 77, 2) := by decide +kernel
theorem dX0_detailOf_64 : decode cX0_detailOf 64 = .ok (.if_icmp .ne 8, 3) := by decide +kernel
theorem dX0_detailOf_67 : decode cX0_detailOf 67 = .ok (.iload 4, 2) := by decide +kernel
theorem dX0_detailOf_69 : decode cX0_detailOf 69 = .ok (.goto 4, 3) := by decide +kernel
theorem dX0_detailOf_72 : decode cX0_detailOf 72 = .ok (.iload_n 3, 1) := by decide +kernel
theorem dX0_detailOf_73 : decode cX0_detailOf 73 = .ok (.invokevirtual 150, 3) := by decide +kernel
theorem dX0_detailOf_76 : decode cX0_detailOf 76 = .ok (.ireturn, 1) := by decide +kernel
theorem dX0_detailOf_77 : decode cX0_detailOf 77 = .ok (.aload_n 0, 1) := by decide +kernel
theorem dX0_detailOf_78 : decode cX0_detailOf 78 = .ok (.iload_n 3, 1) := by decide +kernel
theorem dX0_detailOf_79 : decode cX0_detailOf 79 = .ok (.invokevirtual 144, 3) := by decide +kernel
theorem dX0_detailOf_82 : decode cX0_detailOf 82 = .ok (.ifCond .eq 8, 3) := by decide +kernel
theorem dX0_detailOf_85 : decode cX0_detailOf 85 = .ok (.iload 4, 2) := by decide +kernel
theorem dX0_detailOf_87 : decode cX0_detailOf 87 = .ok (.goto 4, 3) := by decide +kernel
theorem dX0_detailOf_90 : decode cX0_detailOf 90 = .ok (.iload_n 3, 1) := by decide +kernel
theorem dX0_detailOf_91 : decode cX0_detailOf 91 = .ok (.ireturn, 1) := by decide +kernel
theorem dX0_detailOf_92 : decode cX0_detailOf 92 = .ok (.iload_n 3, 1) := by decide +kernel
theorem dX0_detailOf_93 : decode cX0_detailOf 93 = .ok (.ireturn, 1) := by decide +kernel
theorem dX0_detailOf_94 : decode cX0_detailOf 94 = .ok (.aload_n 0, 1) := by decide +kernel
theorem dX0_detailOf_95 : decode cX0_detailOf 95 = .ok (.iload_n 3, 1) := by decide +kernel
theorem dX0_detailOf_96 : decode cX0_detailOf 96 = .ok (.invokevirtual 147, 3) := by decide +kernel
theorem dX0_detailOf_99 : decode cX0_detailOf 99 = .ok (.ireturn, 1) := by decide +kernel
theorem dX0_detailOf_100 : decode cX0_detailOf 100 = .ok (.aload_n 0, 1) := by decide +kernel
theorem dX0_detailOf_101 : decode cX0_detailOf 101 = .ok (.getfield 37, 3) := by decide +kernel
theorem dX0_detailOf_104 : decode cX0_detailOf 104 = .ok (.ireturn, 1) := by decide +kernel
theorem dX0_detailOf_105 : decode cX0_detailOf 105 = .ok (.iconst 0, 1) := by decide +kernel
theorem dX0_detailOf_106 : decode cX0_detailOf 106 = .ok (.ireturn, 1) := by decide +kernel
theorem dX0_copySlot_0 : decode cX0_copySlot 0 = .ok (.aload_n 0, 1) := by decide +kernel
theorem dX0_copySlot_1 : decode cX0_copySlot 1 = .ok (.getfield 9, 3) := by decide +kernel
theorem dX0_copySlot_4 : decode cX0_copySlot 4 = .ok (.iload_n 2, 1) := by decide +kernel
theorem dX0_copySlot_5 : decode cX0_copySlot 5 = .ok (.aload_n 0, 1) := by decide +kernel
theorem dX0_copySlot_6 : decode cX0_copySlot 6 = .ok (.getfield 9, 3) := by decide +kernel
theorem dX0_copySlot_9 : decode cX0_copySlot 9 = .ok (.iload_n 1, 1) := by decide +kernel
theorem dX0_copySlot_10 : decode cX0_copySlot 10 = .ok (.iaload, 1) := by decide +kernel
theorem dX0_copySlot_11 : decode cX0_copySlot 11 = .ok (.iastore, 1) := by decide +kernel
theorem dX0_copySlot_12 : decode cX0_copySlot 12 = .ok (.aload_n 0, 1) := by decide +kernel
theorem dX0_copySlot_13 : decode cX0_copySlot 13 = .ok (.getfield 15, 3) := by decide +kernel
theorem dX0_copySlot_16 : decode cX0_copySlot 16 = .ok (.iload_n 2, 1) := by decide +kernel
theorem dX0_copySlot_17 : decode cX0_copySlot 17 = .ok (.aload_n 0, 1) := by decide +kernel
theorem dX0_copySlot_18 : decode cX0_copySlot 18 = .ok (.getfield 15, 3) := by decide +kernel
theorem dX0_copySlot_21 : decode cX0_copySlot 21 = .ok (.iload_n 1, 1) := by decide +kernel
theorem dX0_copySlot_22 : decode cX0_copySlot 22 = .ok (.iaload, 1) := by decide +kernel
theorem dX0_copySlot_23 : decode cX0_copySlot 23 = .ok (.iastore, 1) := by decide +kernel
theorem dX0_copySlot_24 : decode cX0_copySlot 24 = .ok (.aload_n 0, 1) := by decide +kernel
theorem dX0_copySlot_25 : decode cX0_copySlot 25 = .ok (.getfield 18, 3) := by decide +kernel
theorem dX0_copySlot_28 : decode cX0_copySlot 28 = .ok (.iload_n 2, 1) := by decide +kernel
theorem dX0_copySlot_29 : decode cX0_copySlot 29 = .ok (.aload_n 0, 1) := by decide +kernel
theorem dX0_copySlot_30 : decode cX0_copySlot 30 = .ok (.getfield 18, 3) := by decide +kernel
theorem dX0_copySlot_33 : decode cX0_copySlot 33 = .ok (.iload_n 1, 1) := by decide +kernel
theorem dX0_copySlot_34 : decode cX0_copySlot 34 = .ok (.iaload, 1) := by decide +kernel
theorem dX0_copySlot_35 : decode cX0_copySlot 35 = .ok (.iastore, 1) := by decide +kernel
theorem dX0_copySlot_36 : decode cX0_copySlot 36 = .ok (.aload_n 0, 1) := by decide +kernel
theorem dX0_copySlot_37 : decode cX0_copySlot 37 = .ok (.getfield 21, 3) := by decide +kernel
theorem dX0_copySlot_40 : decode cX0_copySlot 40 = .ok (.iload_n 2, 1) := by decide +kernel
theorem dX0_copySlot_41 : decode cX0_copySlot 41 = .ok (.aload_n 0, 1) := by decide +kernel
theorem dX0_copySlot_42 : decode cX0_copySlot 42 = .ok (.getfield 21, 3) := by decide +kernel
theorem dX0_copySlot_45 : decode cX0_copySlot 45 = .ok (.iload_n 1, 1) := by decide +kernel
theorem dX0_copySlot_46 : decode cX0_copySlot 46 = .ok (.iaload, 1) := by decide +kernel
theorem dX0_copySlot_47 : decode cX0_copySlot 47 = .ok (.iastore, 1) := by decide +kernel
theorem dX0_copySlot_48 : decode cX0_copySlot 48 = .ok (.aload_n 0, 1) := by decide +kernel
theorem dX0_copySlot_49 : decode cX0_copySlot 49 = .ok (.getfield 24, 3) := by decide +kernel
theorem dX0_copySlot_52 : decode cX0_copySlot 52 = .ok (.iload_n 2, 1) := by decide +kernel
theorem dX0_copySlot_53 : decode cX0_copySlot 53 = .ok (.aload_n 0, 1) := by decide +kernel
theorem dX0_copySlot_54 : decode cX0_copySlot 54 = .ok (.getfield 24, 3) := by decide +kernel
theorem dX0_copySlot_57 : decode cX0_copySlot 57 = .ok (.iload_n 1, 1) := by decide +kernel
theorem dX0_copySlot_58 : decode cX0_copySlot 58 = .ok (.iaload, 1) := by decide +kernel
theorem dX0_copySlot_59 : decode cX0_copySlot 59 = .ok (.iastore, 1) := by decide +kernel
theorem dX0_copySlot_60 : decode cX0_copySlot 60 = .ok (.return_, 1) := by decide +kernel
theorem dX0_insert_0 : decode cX0_insert 0 = .ok (.aload_n 0, 1) := by decide +kernel
theorem dX0_insert_1 : decode cX0_insert 1 = .ok (.getfield 30, 3) := by decide +kernel
theorem dX0_insert_4 : decode cX0_insert 4 = .ok (.bipush 12, 2) := by decide +kernel
theorem dX0_insert_6 : decode cX0_insert 6 = .ok (.if_icmp .lt 4, 3) := by decide +kernel
theorem dX0_insert_9 : decode cX0_insert 9 = .ok (.return_, 1) := by decide +kernel
theorem dX0_insert_10 : decode cX0_insert 10 = .ok (.aload_n 0, 1) := by decide +kernel
theorem dX0_insert_11 : decode cX0_insert 11 = .ok (.getfield 30, 3) := by decide +kernel
theorem dX0_insert_14 : decode cX0_insert 14 = .ok (.istore 6, 2) := by decide +kernel
theorem dX0_insert_16 : decode cX0_insert 16 = .ok (.iload 6, 2) := by decide +kernel
theorem dX0_insert_18 : decode cX0_insert 18 = .ok (.ifCond .le 32, 3) := by decide +kernel
theorem dX0_insert_21 : decode cX0_insert 21 = .ok (.aload_n 0, 1) := by decide +kernel
theorem dX0_insert_22 : decode cX0_insert 22 = .ok (.getfield 15, 3) := by decide +kernel
theorem dX0_insert_25 : decode cX0_insert 25 = .ok (.iload 6, 2) := by decide +kernel
theorem dX0_insert_27 : decode cX0_insert 27 = .ok (.iconst 1, 1) := by decide +kernel
theorem dX0_insert_28 : decode cX0_insert 28 = .ok (.isub, 1) := by decide +kernel
theorem dX0_insert_29 : decode cX0_insert 29 = .ok (.iaload, 1) := by decide +kernel
theorem dX0_insert_30 : decode cX0_insert 30 = .ok (.iload_n 2, 1) := by decide +kernel
theorem dX0_insert_31 : decode cX0_insert 31 = .ok (.if_icmp .le 19, 3) := by decide +kernel
theorem dX0_insert_34 : decode cX0_insert 34 = .ok (.aload_n 0, 1) := by decide +kernel
theorem dX0_insert_35 : decode cX0_insert 35 = .ok (.iload 6, 2) := by decide +kernel
theorem dX0_insert_37 : decode cX0_insert 37 = .ok (.iconst 1, 1) := by decide +kernel
theorem dX0_insert_38 : decode cX0_insert 38 = .ok (.isub, 1) := by decide +kernel
theorem dX0_insert_39 : decode cX0_insert 39 = .ok (.iload 6, 2) := by decide +kernel
theorem dX0_insert_41 : decode cX0_insert 41 = .ok (.invokevirtual 184, 3) := by decide +kernel
theorem dX0_insert_44 : decode cX0_insert 44 = .ok (.iinc 6 (-1), 3) := by decide +kernel
theorem dX0_insert_47 : decode cX0_insert 47 = .ok (.goto (-31), 3) := by decide +kernel
theorem dX0_insert_50 : decode cX0_insert 50 = .ok (.aload_n 0, 1) := by decide +kernel
theorem dX0_insert_51 : decode cX0_insert 51 = .ok (.getfield 9, 3) := by decide +kernel
theorem dX0_insert_54 : decode cX0_insert 54 = .ok (.iload 6, 2) := by decide +kernel
theorem dX0_insert_56 : decode cX0_insert 56 = .ok (.iload_n 1, 1) := by decide +kernel
theorem dX0_insert_57 : decode cX0_insert 57 = .ok (.iastore, 1) := by decide +kernel
theorem dX0_insert_58 : decode cX0_insert 58 = .ok (.aload_n 0, 1) := by decide +kernel
theorem dX0_insert_59 : decode cX0_insert 59 = .ok (.getfield 15, 3) := by decide +kernel
theorem dX0_insert_62 : decode cX0_insert 62 = .ok (.iload 6, 2) := by decide +kernel
theorem dX0_insert_64 : decode cX0_insert 64 = .ok (.iload_n 2, 1) := by decide +kernel
theorem dX0_insert_65 : decode cX0_insert 65 = .ok (.iastore, 1) := by decide +kernel
theorem dX0_insert_66 : decode cX0_insert 66 = .ok (.aload_n 0, 1) := by decide +kernel
theorem dX0_insert_67 : decode cX0_insert 67 = .ok (.getfield 18, 3) := by decide +kernel
theorem dX0_insert_70 : decode cX0_insert 70 = .ok (.iload 6, 2) := by decide +kernel
theorem dX0_insert_72 : decode cX0_insert 72 = .ok (.iload_n 3, 1) := by decide +kernel
theorem dX0_insert_73 : decode cX0_insert 73 = .ok (.iastore, 1) := by decide +kernel
theorem dX0_insert_74 : decode cX0_insert 74 = .ok (.aload_n 0, 1) := by decide +kernel
theorem dX0_insert_75 : decode cX0_insert 75 = .ok (.getfield 21, 3) := by decide +kernel
theorem dX0_insert_78 : decode cX0_insert 78 = .ok (.iload 6, 2) := by decide +kernel
theorem dX0_insert_80 : decode cX0_insert 80 = .ok (.iload 4, 2) := by decide +kernel
theorem dX0_insert_82 : decode cX0_insert 82 = .ok (.iastore, 1) := by decide +kernel
theorem dX0_insert_83 : decode cX0_insert 83 = .ok (.aload_n 0, 1) := by decide +kernel
theorem dX0_insert_84 : decode cX0_insert 84 = .ok (.getfield 24, 3) := by decide +kernel
theorem dX0_insert_87 : decode cX0_insert 87 = .ok (.iload 6, 2) := by decide +kernel
theorem dX0_insert_89 : decode cX0_insert 89 = .ok (.iload 5, 2) := by decide +kernel
theorem dX0_insert_91 : decode cX0_insert 91 = .ok (.iastore, 1) := by decide +kernel
theorem dX0_insert_92 : decode cX0_insert 92 = .ok (.aload_n 0, 1) := by decide +kernel
theorem dX0_insert_93 : decode cX0_insert 93 = .ok (.dup, 1) := by decide +kernel
theorem dX0_insert_94 : decode cX0_insert 94 = .ok (.getfield 30, 3) := by decide +kernel
theorem dX0_insert_97 : decode cX0_insert 97 = .ok (.iconst 1, 1) := by decide +kernel
theorem dX0_insert_98 : decode cX0_insert 98 = .ok (.iadd, 1) := by decide +kernel
theorem dX0_insert_99 : decode cX0_insert 99 = .ok (.putfield 30, 3) := by decide +kernel
theorem dX0_insert_102 : decode cX0_insert 102 = .ok (.return_, 1) := by decide +kernel
theorem dX0_add_0 : decode cX0_add 0 = .ok (.aload_n 0, 1) := by decide +kernel
theorem dX0_add_1 : decode cX0_add 1 = .ok (.getfield 40, 3) := by decide +kernel
theorem dX0_add_4 : decode cX0_add 4 = .ok (.istore 4, 2) := by decide +kernel
theorem dX0_add_6 : decode cX0_add 6 = .ok (.aload_n 0, 1) := by decide +kernel
theorem dX0_add_7 : decode cX0_add 7 = .ok (.dup, 1) := by decide +kernel
theorem dX0_add_8 : decode cX0_add 8 = .ok (.getfield 40, 3) := by decide +kernel
theorem dX0_add_11 : decode cX0_add 11 = .ok (.iconst 1, 1) := by decide +kernel
theorem dX0_add_12 : decode cX0_add 12 = .ok (.iadd, 1) := by decide +kernel
theorem dX0_add_13 : decode cX0_add 13 = .ok (.putfield 40, 3) := by decide +kernel
theorem dX0_add_16 : decode cX0_add 16 = .ok (.aload_n 0, 1) := by decide +kernel
theorem dX0_add_17 : decode cX0_add 17 = .ok (.iload 4, 2) := by decide +kernel
theorem dX0_add_19 : decode cX0_add 19 = .ok (.iload_n 1, 1) := by decide +kernel
theorem dX0_add_20 : decode cX0_add 20 = .ok (.iload_n 2, 1) := by decide +kernel
theorem dX0_add_21 : decode cX0_add 21 = .ok (.iconst 0, 1) := by decide +kernel
theorem dX0_add_22 : decode cX0_add 22 = .ok (.iload_n 3, 1) := by decide +kernel
theorem dX0_add_23 : decode cX0_add 23 = .ok (.invokevirtual 176, 3) := by decide +kernel
theorem dX0_add_26 : decode cX0_add 26 = .ok (.iload 4, 2) := by decide +kernel
theorem dX0_add_28 : decode cX0_add 28 = .ok (.ireturn, 1) := by decide +kernel
theorem dX0_takeOut_0 : decode cX0_takeOut 0 = .ok (.iload_n 1, 1) := by decide +kernel
theorem dX0_takeOut_1 : decode cX0_takeOut 1 = .ok (.iconst 1, 1) := by decide +kernel
theorem dX0_takeOut_2 : decode cX0_takeOut 2 = .ok (.iadd, 1) := by decide +kernel
theorem dX0_takeOut_3 : decode cX0_takeOut 3 = .ok (.istore_n 2, 1) := by decide +kernel
theorem dX0_takeOut_4 : decode cX0_takeOut 4 = .ok (.iload_n 2, 1) := by decide +kernel
theorem dX0_takeOut_5 : decode cX0_takeOut 5 = .ok (.aload_n 0, 1) := by decide +kernel
theorem dX0_takeOut_6 : decode cX0_takeOut 6 = .ok (.getfield 30, 3) := by decide +kernel
theorem dX0_takeOut_9 : decode cX0_takeOut 9 = .ok (.if_icmp .ge 17, 3) := by decide +kernel
theorem dX0_takeOut_12 : decode cX0_takeOut 12 = .ok (.aload_n 0, 1) := by decide +kernel
theorem dX0_takeOut_13 : decode cX0_takeOut 13 = .ok (.iload_n 2, 1) := by decide +kernel
theorem dX0_takeOut_14 : decode cX0_takeOut 14 = .ok (.iload_n 2, 1) := by decide +kernel
theorem dX0_takeOut_15 : decode cX0_takeOut 15 = .ok (.iconst 1, 1) := by decide +kernel
theorem dX0_takeOut_16 : decode cX0_takeOut 16 = .ok (.isub, 1) := by decide +kernel
theorem dX0_takeOut_17 : decode cX0_takeOut 17 = .ok (.invokevirtual 184, 3) := by decide +kernel
theorem dX0_takeOut_20 : decode cX0_takeOut 20 = .ok (.iinc 2 1, 3) := by decide +kernel
theorem dX0_takeOut_23 : decode cX0_takeOut 23 = .ok (.goto (-19), 3) := by decide +kernel
theorem dX0_takeOut_26 : decode cX0_takeOut 26 = .ok (.aload_n 0, 1) := by decide +kernel
theorem dX0_takeOut_27 : decode cX0_takeOut 27 = .ok (.dup, 1) := by decide +kernel
theorem dX0_takeOut_28 : decode cX0_takeOut 28 = .ok (.getfield 30, 3) := by decide +kernel
theorem dX0_takeOut_31 : decode cX0_takeOut 31 = .ok (.iconst 1, 1) := by decide +kernel
theorem dX0_takeOut_32 : decode cX0_takeOut 32 = .ok (.isub, 1) := by decide +kernel
theorem dX0_takeOut_33 : decode cX0_takeOut 33 = .ok (.putfield 30, 3) := by decide +kernel
theorem dX0_takeOut_36 : decode cX0_takeOut 36 = .ok (.return_, 1) := by decide +kernel
theorem dX0_remove_0 : decode cX0_remove 0 = .ok (.iload_n 1, 1) := by decide +kernel
theorem dX0_remove_1 : decode cX0_remove 1 = .ok (.iconst (-1), 1) := by decide +kernel
theorem dX0_remove_2 : decode cX0_remove 2 = .ok (.if_icmp .ne 5, 3) := by decide +kernel
theorem dX0_remove_5 : decode cX0_remove 5 = .ok (.iconst (-1), 1) := by decide +kernel
theorem dX0_remove_6 : decode cX0_remove 6 = .ok (.ireturn, 1) := by decide +kernel
theorem dX0_remove_7 : decode cX0_remove 7 = .ok (.aload_n 0, 1) := by decide +kernel
theorem dX0_remove_8 : decode cX0_remove 8 = .ok (.getfield 15, 3) := by decide +kernel
theorem dX0_remove_11 : decode cX0_remove 11 = .ok (.iload_n 1, 1) := by decide +kernel
theorem dX0_remove_12 : decode cX0_remove 12 = .ok (.iaload, 1) := by decide +kernel
theorem dX0_remove_13 : decode cX0_remove 13 = .ok (.istore_n 2, 1) := by decide +kernel
theorem dX0_remove_14 : decode cX0_remove 14 = .ok (.aload_n 0, 1) := by decide +kernel
theorem dX0_remove_15 : decode cX0_remove 15 = .ok (.iload_n 1, 1) := by decide +kernel
theorem dX0_remove_16 : decode cX0_remove 16 = .ok (.invokevirtual 180, 3) := by decide +kernel
theorem dX0_remove_19 : decode cX0_remove 19 = .ok (.iload_n 2, 1) := by decide +kernel
theorem dX0_remove_20 : decode cX0_remove 20 = .ok (.ireturn, 1) := by decide +kernel
theorem dX0_move_0 : decode cX0_move 0 = .ok (.iload_n 1, 1) := by decide +kernel
theorem dX0_move_1 : decode cX0_move 1 = .ok (.iconst (-1), 1) := by decide +kernel
theorem dX0_move_2 : decode cX0_move 2 = .ok (.if_icmp .ne 5, 3) := by decide +kernel
theorem dX0_move_5 : decode cX0_move 5 = .ok (.iconst (-1), 1) := by decide +kernel
theorem dX0_move_6 : decode cX0_move 6 = .ok (.ireturn, 1) := by decide +kernel
theorem dX0_move_7 : decode cX0_move 7 = .ok (.aload_n 0, 1) := by decide +kernel
theorem dX0_move_8 : decode cX0_move 8 = .ok (.getfield 9, 3) := by decide +kernel
theorem dX0_move_11 : decode cX0_move 11 = .ok (.iload_n 1, 1) := by decide +kernel
theorem dX0_move_12 : decode cX0_move 12 = .ok (.iaload, 1) := by decide +kernel
theorem dX0_move_13 : decode cX0_move 13 = .ok (.istore_n 3, 1) := by decide +kernel
theorem dX0_move_14 : decode cX0_move 14 = .ok (.aload_n 0, 1) := by decide +kernel
theorem dX0_move_15 : decode cX0_move 15 = .ok (.getfield 18, 3) := by decide +kernel
theorem dX0_move_18 : decode cX0_move 18 = .ok (.iload_n 1, 1) := by decide +kernel
theorem dX0_move_19 : decode cX0_move 19 = .ok (.iaload, 1) := by decide +kernel
theorem dX0_move_20 : decode cX0_move 20 = .ok (.istore 4, 2) := by decide +kernel
theorem dX0_move_22 : decode cX0_move 22 = .ok (.aload_n 0, 1) := by decide +kernel
theorem dX0_move_23 : decode cX0_move 23 = .ok (.getfield 21, 3) := by decide +kernel
theorem dX0_move_26 : decode cX0_move 26 = .ok (.iload_n 1, 1) := by decide +kernel
theorem dX0_move_27 : decode cX0_move 27 = .ok (.iaload, 1) := by decide +kernel
theorem dX0_move_28 : decode cX0_move 28 = .ok (.istore 5, 2) := by decide +kernel
theorem dX0_move_30 : decode cX0_move 30 = .ok (.aload_n 0, 1) := by decide +kernel
theorem dX0_move_31 : decode cX0_move 31 = .ok (.getfield 24, 3) := by decide +kernel
theorem dX0_move_34 : decode cX0_move 34 = .ok (.iload_n 1, 1) := by decide +kernel
theorem dX0_move_35 : decode cX0_move 35 = .ok (.iaload, 1) := by decide +kernel
theorem dX0_move_36 : decode cX0_move 36 = .ok (.istore 6, 2) := by decide +kernel
theorem dX0_move_38 : decode cX0_move 38 = .ok (.aload_n 0, 1) := by decide +kernel
theorem dX0_move_39 : decode cX0_move 39 = .ok (.iload_n 1, 1) := by decide +kernel
theorem dX0_move_40 : decode cX0_move 40 = .ok (.invokevirtual 157, 3) := by decide +kernel
theorem dX0_move_43 : decode cX0_move 43 = .ok (.istore 7, 2) := by decide +kernel
theorem dX0_move_45 : decode cX0_move 45 = .ok (.aload_n 0, 1) := by decide +kernel
theorem dX0_move_46 : decode cX0_move 46 = .ok (.iload_n 3, 1) := by decide +kernel
theorem dX0_move_47 : decode cX0_move 47 = .ok (.iload_n 2, 1) := by decide +kernel
theorem dX0_move_48 : decode cX0_move 48 = .ok (.iload 4, 2) := by decide +kernel
theorem dX0_move_50 : decode cX0_move 50 = .ok (.iload 5, 2) := by decide +kernel
theorem dX0_move_52 : decode cX0_move 52 = .ok (.iload 6, 2) := by decide +kernel
theorem dX0_move_54 : decode cX0_move 54 = .ok (.invokevirtual 176, 3) := by decide +kernel
theorem dX0_move_57 : decode cX0_move 57 = .ok (.iload 7, 2) := by decide +kernel
theorem dX0_move_59 : decode cX0_move 59 = .ok (.ireturn, 1) := by decide +kernel
theorem dX0_swap_0 : decode cX0_swap 0 = .ok (.iload_n 1, 1) := by decide +kernel
theorem dX0_swap_1 : decode cX0_swap 1 = .ok (.iconst (-1), 1) := by decide +kernel
theorem dX0_swap_2 : decode cX0_swap 2 = .ok (.if_icmp .eq 8, 3) := by decide +kernel
theorem dX0_swap_5 : decode cX0_swap 5 = .ok (.iload_n 2, 1) := by decide +kernel
theorem dX0_swap_6 : decode cX0_swap 6 = .ok (.iconst (-1), 1) := by decide +kernel
theorem dX0_swap_7 : decode cX0_swap 7 = .ok (.if_icmp .ne 5, 3) := by decide +kernel
theorem dX0_swap_10 : decode cX0_swap 10 = .ok (.iconst (-1), 1) := by decide +kernel
theorem dX0_swap_11 : decode cX0_swap 11 = .ok (.ireturn, 1) := by decide +kernel
theorem dX0_swap_12 : decode cX0_swap 12 = .ok (.aload_n 0, 1) := by decide +kernel
theorem dX0_swap_13 : decode cX0_swap 13 = .ok (.getfield 24, 3) := by decide +kernel
theorem dX0_swap_16 : decode cX0_swap 16 = .ok (.iload_n 2, 1) := by decide +kernel
theorem dX0_swap_17 : decode cX0_swap 17 = .ok (.iaload, 1) := by decide +kernel
theorem dX0_swap_18 : decode cX0_swap 18 = .ok (.istore_n 3, 1) := by decide +kernel
theorem dX0_swap_19 : decode cX0_swap 19 = .ok (.aload_n 0, 1) := by decide +kernel
theorem dX0_swap_20 : decode cX0_swap 20 = .ok (.getfield 24, 3) := by decide +kernel
theorem dX0_swap_23 : decode cX0_swap 23 = .ok (.iload_n 2, 1) := by decide +kernel
theorem dX0_swap_24 : decode cX0_swap 24 = .ok (.aload_n 0, 1) := by decide +kernel
theorem dX0_swap_25 : decode cX0_swap 25 = .ok (.getfield 24, 3) := by decide +kernel
theorem dX0_swap_28 : decode cX0_swap 28 = .ok (.iload_n 1, 1) := by decide +kernel
theorem dX0_swap_29 : decode cX0_swap 29 = .ok (.iaload, 1) := by decide +kernel
theorem dX0_swap_30 : decode cX0_swap 30 = .ok (.iastore, 1) := by decide +kernel
theorem dX0_swap_31 : decode cX0_swap 31 = .ok (.aload_n 0, 1) := by decide +kernel
theorem dX0_swap_32 : decode cX0_swap 32 = .ok (.getfield 24, 3) := by decide +kernel
theorem dX0_swap_35 : decode cX0_swap 35 = .ok (.iload_n 1, 1) := by decide +kernel
theorem dX0_swap_36 : decode cX0_swap 36 = .ok (.iload_n 3, 1) := by decide +kernel
theorem dX0_swap_37 : decode cX0_swap 37 = .ok (.iastore, 1) := by decide +kernel
theorem dX0_swap_38 : decode cX0_swap 38 = .ok (.iload_n 3, 1) := by decide +kernel
theorem dX0_swap_39 : decode cX0_swap 39 = .ok (.ireturn, 1) := by decide +kernel
theorem dX0_start_0 : decode cX0_start 0 = .ok (.aload_n 0, 1) := by decide +kernel
theorem dX0_start_1 : decode cX0_start 1 = .ok (.iload_n 1, 1) := by decide +kernel
theorem dX0_start_2 : decode cX0_start 2 = .ok (.invokevirtual 147, 3) := by decide +kernel
theorem dX0_start_5 : decode cX0_start 5 = .ok (.iconst 1, 1) := by decide +kernel
theorem dX0_start_6 : decode cX0_start 6 = .ok (.iadd, 1) := by decide +kernel
theorem dX0_start_7 : decode cX0_start 7 = .ok (.istore_n 2, 1) := by decide +kernel
theorem dX0_start_8 : decode cX0_start 8 = .ok (.aload_n 0, 1) := by decide +kernel
theorem dX0_start_9 : decode cX0_start 9 = .ok (.getfield 34, 3) := by decide +kernel
theorem dX0_start_12 : decode cX0_start 12 = .ok (.bipush 8, 2) := by decide +kernel
theorem dX0_start_14 : decode cX0_start 14 = .ok (.if_icmp .lt 5, 3) := by decide +kernel
theorem dX0_start_17 : decode cX0_start 17 = .ok (.iconst (-1), 1) := by decide +kernel
theorem dX0_start_18 : decode cX0_start 18 = .ok (.ireturn, 1) := by decide +kernel
theorem dX0_start_19 : decode cX0_start 19 = .ok (.aload_n 0, 1) := by decide +kernel
theorem dX0_start_20 : decode cX0_start 20 = .ok (.getfield 34, 3) := by decide +kernel
theorem dX0_start_23 : decode cX0_start 23 = .ok (.istore_n 3, 1) := by decide +kernel
theorem dX0_start_24 : decode cX0_start 24 = .ok (.iload_n 3, 1) := by decide +kernel
theorem dX0_start_25 : decode cX0_start 25 = .ok (.iload_n 2, 1) := by decide +kernel
theorem dX0_start_26 : decode cX0_start 26 = .ok (.if_icmp .le 23, 3) := by decide +kernel
theorem dX0_start_29 : decode cX0_start 29 = .ok (.aload_n 0, 1) := by decide +kernel
theorem dX0_start_30 : decode cX0_start 30 = .ok (.getfield 27, 3) := by decide +kernel
theorem dX0_start_33 : decode cX0_start 33 = .ok (.iload_n 3, 1) := by decide +kernel
theorem dX0_start_34 : decode cX0_start 34 = .ok (.aload_n 0, 1) := by decide +kernel
theorem dX0_start_35 : decode cX0_start 35 = .ok (.getfield 27, 3) := by decide +kernel
theorem dX0_start_38 : decode cX0_start 38 = .ok (.iload_n 3, 1) := by decide +kernel
theorem dX0_start_39 : decode cX0_start 39 = .ok (.iconst 1, 1) := by decide +kernel
theorem dX0_start_40 : decode cX0_start 40 = .ok (.isub, 1) := by decide +kernel
theorem dX0_start_41 : decode cX0_start 41 = .ok (.iaload, 1) := by decide +kernel
theorem dX0_start_42 : decode cX0_start 42 = .ok (.iastore, 1) := by decide +kernel
theorem dX0_start_43 : decode cX0_start 43 = .ok (.iinc 3 (-1), 3) := by decide +kernel
theorem dX0_start_46 : decode cX0_start 46 = .ok (.goto (-22), 3) := by decide +kernel
theorem dX0_start_49 : decode cX0_start 49 = .ok (.aload_n 0, 1) := by decide +kernel
theorem dX0_start_50 : decode cX0_start 50 = .ok (.getfield 27, 3) := by decide +kernel
theorem dX0_start_53 : decode cX0_start 53 = .ok (.iload_n 2, 1) := by decide +kernel
theorem dX0_start_54 : decode cX0_start 54 = .ok (.iload_n 1, 1) := by decide +kernel
theorem dX0_start_55 : decode cX0_start 55 = .ok (.iastore, 1) := by decide +kernel
theorem dX0_start_56 : decode cX0_start 56 = .ok (.aload_n 0, 1) := by decide +kernel
theorem dX0_start_57 : decode cX0_start 57 = .ok (.dup, 1) := by decide +kernel
theorem dX0_start_58 : decode cX0_start 58 = .ok (.getfield 34, 3) := by decide +kernel
theorem dX0_start_61 : decode cX0_start 61 = .ok (.iconst 1, 1) := by decide +kernel
theorem dX0_start_62 : decode cX0_start 62 = .ok (.iadd, 1) := by decide +kernel
theorem dX0_start_63 : decode cX0_start 63 = .ok (.putfield 34, 3) := by decide +kernel
theorem dX0_start_66 : decode cX0_start 66 = .ok (.iload_n 2, 1) := by decide +kernel
theorem dX0_start_67 : decode cX0_start 67 = .ok (.ireturn, 1) := by decide +kernel
theorem dX0_removeEarsIn_0 : decode cX0_removeEarsIn 0 = .ok (.aload_n 0, 1) := by decide +kernel
theorem dX0_removeEarsIn_1 : decode cX0_removeEarsIn 1 = .ok (.getfield 30, 3) := by decide +kernel
theorem dX0_removeEarsIn_4 : decode cX0_removeEarsIn 4 = .ok (.iconst 1, 1) := by decide +kernel
theorem dX0_removeEarsIn_5 : decode cX0_removeEarsIn 5 = .ok (.isub, 1) := by decide +kernel
theorem dX0_removeEarsIn_6 : decode cX0_removeEarsIn 6 = .ok (.istore_n 2, 1) := by decide +kernel
theorem dX0_removeEarsIn_7 : decode cX0_removeEarsIn 7 = .ok (.iload_n 2, 1) := by decide +kernel
theorem dX0_removeEarsIn_8 : decode cX0_removeEarsIn 8 = .ok (.ifCond .lt 31, 3) := by decide +kernel
theorem dX0_removeEarsIn_11 : decode cX0_removeEarsIn 11 = .ok (.aload_n 0, 1) := by decide +kernel
theorem dX0_removeEarsIn_12 : decode cX0_removeEarsIn 12 = .ok (.iload_n 2, 1) := by decide +kernel
theorem dX0_removeEarsIn_13 : decode cX0_removeEarsIn 13 = .ok (.invokevirtual 72, 3) := by decide +kernel
theorem dX0_removeEarsIn_16 : decode cX0_removeEarsIn 16 = .ok (.ifCond .ne 17, 3) := by decide +kernel
theorem dX0_removeEarsIn_19 : decode cX0_removeEarsIn 19 = .ok (.aload_n 0, 1) := by decide +kernel
theorem dX0_removeEarsIn_20 : decode cX0_removeEarsIn 20 = .ok (.iload_n 2, 1) := by decide +kernel
theorem dX0_removeEarsIn_21 : decode cX0_removeEarsIn 21 = .ok (.iload_n 1, 1) := by decide +kernel
theorem dX0_removeEarsIn_22 : decode cX0_removeEarsIn 22 = .ok (.invokevirtual 85, 3) := by decide +kernel
theorem dX0_removeEarsIn_25 : decode cX0_removeEarsIn 25 = .ok (.ifCond .eq 8, 3) := by decide +kernel
theorem dX0_removeEarsIn_28 : decode cX0_removeEarsIn 28 = .ok (.aload_n 0, 1) := by decide +kernel
theorem dX0_removeEarsIn_29 : decode cX0_removeEarsIn 29 = .ok (.iload_n 2, 1) := by decide +kernel
theorem dX0_removeEarsIn_30 : decode cX0_removeEarsIn 30 = .ok (.invokevirtual 180, 3) := by decide +kernel
theorem dX0_removeEarsIn_33 : decode cX0_removeEarsIn 33 = .ok (.iinc 2 (-1), 3) := by decide +kernel
theorem dX0_removeEarsIn_36 : decode cX0_removeEarsIn 36 = .ok (.goto (-29), 3) := by decide +kernel
theorem dX0_removeEarsIn_39 : decode cX0_removeEarsIn 39 = .ok (.return_, 1) := by decide +kernel
theorem dX0_dropStart_0 : decode cX0_dropStart 0 = .ok (.iload_n 1, 1) := by decide +kernel
theorem dX0_dropStart_1 : decode cX0_dropStart 1 = .ok (.iconst 1, 1) := by decide +kernel
theorem dX0_dropStart_2 : decode cX0_dropStart 2 = .ok (.iadd, 1) := by decide +kernel
theorem dX0_dropStart_3 : decode cX0_dropStart 3 = .ok (.istore_n 2, 1) := by decide +kernel
theorem dX0_dropStart_4 : decode cX0_dropStart 4 = .ok (.iload_n 2, 1) := by decide +kernel
theorem dX0_dropStart_5 : decode cX0_dropStart 5 = .ok (.aload_n 0, 1) := by decide +kernel
theorem dX0_dropStart_6 : decode cX0_dropStart 6 = .ok (.getfield 34, 3) := by decide +kernel
theorem dX0_dropStart_9 : decode cX0_dropStart 9 = .ok (.if_icmp .ge 23, 3) := by decide +kernel
theorem dX0_dropStart_12 : decode cX0_dropStart 12 = .ok (.aload_n 0, 1) := by decide +kernel
theorem dX0_dropStart_13 : decode cX0_dropStart 13 = .ok (.getfield 27, 3) := by decide +kernel
theorem dX0_dropStart_16 : decode cX0_dropStart 16 = .ok (.iload_n 2, 1) := by decide +kernel
theorem dX0_dropStart_17 : decode cX0_dropStart 17 = .ok (.iconst 1, 1) := by decide +kernel
theorem dX0_dropStart_18 : decode cX0_dropStart 18 = .ok (.isub, 1) := by decide +kernel
theorem dX0_dropStart_19 : decode cX0_dropStart 19 = .ok (.aload_n 0, 1) := by decide +kernel
theorem dX0_dropStart_20 : decode cX0_dropStart 20 = .ok (.getfield 27, 3) := by decide +kernel
theorem dX0_dropStart_23 : decode cX0_dropStart 23 = .ok (.iload_n 2, 1) := by decide +kernel
theorem dX0_dropStart_24 : decode cX0_dropStart 24 = .ok (.iaload, 1) := by decide +kernel
theorem dX0_dropStart_25 : decode cX0_dropStart 25 = .ok (.iastore, 1) := by decide +kernel
theorem dX0_dropStart_26 : decode cX0_dropStart 26 = .ok (.iinc 2 1, 3) := by decide +kernel
theorem dX0_dropStart_29 : decode cX0_dropStart 29 = .ok (.goto (-25), 3) := by decide +kernel
theorem dX0_dropStart_32 : decode cX0_dropStart 32 = .ok (.aload_n 0, 1) := by decide +kernel
theorem dX0_dropStart_33 : decode cX0_dropStart 33 = .ok (.dup, 1) := by decide +kernel
theorem dX0_dropStart_34 : decode cX0_dropStart 34 = .ok (.getfield 34, 3) := by decide +kernel
theorem dX0_dropStart_37 : decode cX0_dropStart 37 = .ok (.iconst 1, 1) := by decide +kernel
theorem dX0_dropStart_38 : decode cX0_dropStart 38 = .ok (.isub, 1) := by decide +kernel
theorem dX0_dropStart_39 : decode cX0_dropStart 39 = .ok (.putfield 34, 3) := by decide +kernel
theorem dX0_dropStart_42 : decode cX0_dropStart 42 = .ok (.return_, 1) := by decide +kernel
theorem dX0_vote_0 : decode cX0_vote 0 = .ok (.aload_n 0, 1) := by decide +kernel
theorem dX0_vote_1 : decode cX0_vote 1 = .ok (.dup, 1) := by decide +kernel
theorem dX0_vote_2 : decode cX0_vote 2 = .ok (.getfield 43, 3) := by decide +kernel
theorem dX0_vote_5 : decode cX0_vote 5 = .ok (.iconst 1, 1) := by decide +kernel
theorem dX0_vote_6 : decode cX0_vote 6 = .ok (.iadd, 1) := by decide +kernel
theorem dX0_vote_7 : decode cX0_vote 7 = .ok (.putfield 43, 3) := by decide +kernel
theorem dX0_vote_10 : decode cX0_vote 10 = .ok (.aload_n 0, 1) := by decide +kernel
theorem dX0_vote_11 : decode cX0_vote 11 = .ok (.iload_n 1, 1) := by decide +kernel
theorem dX0_vote_12 : decode cX0_vote 12 = .ok (.invokevirtual 188, 3) := by decide +kernel
theorem dX0_vote_15 : decode cX0_vote 15 = .ok (.ifCond .ne 5, 3) := by decide +kernel
theorem dX0_vote_18 : decode cX0_vote 18 = .ok (.iconst 0, 1) := by decide +kernel
theorem dX0_vote_19 : decode cX0_vote 19 = .ok (.ireturn, 1) := by decide +kernel
theorem dX0_vote_20 : decode cX0_vote 20 = .ok (.aload_n 0, 1) := by decide +kernel
theorem dX0_vote_21 : decode cX0_vote 21 = .ok (.dup, 1) := by decide +kernel
theorem dX0_vote_22 : decode cX0_vote 22 = .ok (.getfield 46, 3) := by decide +kernel
theorem dX0_vote_25 : decode cX0_vote 25 = .ok (.iconst 1, 1) := by decide +kernel
theorem dX0_vote_26 : decode cX0_vote 26 = .ok (.iadd, 1) := by decide +kernel
theorem dX0_vote_27 : decode cX0_vote 27 = .ok (.putfield 46, 3) := by decide +kernel
theorem dX0_vote_30 : decode cX0_vote 30 = .ok (.aload_n 0, 1) := by decide +kernel
theorem dX0_vote_31 : decode cX0_vote 31 = .ok (.iload_n 1, 1) := by decide +kernel
theorem dX0_vote_32 : decode cX0_vote 32 = .ok (.invokevirtual 191, 3) := by decide +kernel
theorem dX0_vote_35 : decode cX0_vote 35 = .ok (.aload_n 0, 1) := by decide +kernel
theorem dX0_vote_36 : decode cX0_vote 36 = .ok (.iload_n 1, 1) := by decide +kernel
theorem dX0_vote_37 : decode cX0_vote 37 = .ok (.ifCond .ne 7, 3) := by decide +kernel
theorem dX0_vote_40 : decode cX0_vote 40 = .ok (.iconst 1, 1) := by decide +kernel
theorem dX0_vote_41 : decode cX0_vote 41 = .ok (.goto 4, 3) := by decide +kernel
theorem dX0_vote_44 : decode cX0_vote 44 = .ok (.iload_n 1, 1) := by decide +kernel
theorem dX0_vote_45 : decode cX0_vote 45 = .ok (.invokevirtual 194, 3) := by decide +kernel
theorem dX0_vote_48 : decode cX0_vote 48 = .ok (.iconst 1, 1) := by decide +kernel
theorem dX0_vote_49 : decode cX0_vote 49 = .ok (.ireturn, 1) := by decide +kernel
theorem dX0_isEarOnTheWay_0 : decode cX0_isEarOnTheWay 0 = .ok (.iload_n 3, 1) := by decide +kernel
theorem dX0_isEarOnTheWay_1 : decode cX0_isEarOnTheWay 1 = .ok (.ifCond .eq 17, 3) := by decide +kernel
theorem dX0_isEarOnTheWay_4 : decode cX0_isEarOnTheWay 4 = .ok (.aload_n 0, 1) := by decide +kernel
theorem dX0_isEarOnTheWay_5 : decode cX0_isEarOnTheWay 5 = .ok (.getfield 15, 3) := by decide +kernel
theorem dX0_isEarOnTheWay_8 : decode cX0_isEarOnTheWay 8 = .ok (.iload_n 1, 1) := by decide +kernel
theorem dX0_isEarOnTheWay_9 : decode cX0_isEarOnTheWay 9 = .ok (.iaload, 1) := by decide +kernel
theorem dX0_isEarOnTheWay_10 : decode cX0_isEarOnTheWay 10 = .ok (.aload_n 0, 1) := by decide +kernel
theorem dX0_isEarOnTheWay_11 : decode cX0_isEarOnTheWay 11 = .ok (.getfield 37, 3) := by decide +kernel
theorem dX0_isEarOnTheWay_14 : decode cX0_isEarOnTheWay 14 = .ok (.isub, 1) := by decide +kernel
theorem dX0_isEarOnTheWay_15 : decode cX0_isEarOnTheWay 15 = .ok (.goto 14, 3) := by decide +kernel
theorem dX0_isEarOnTheWay_18 : decode cX0_isEarOnTheWay 18 = .ok (.aload_n 0, 1) := by decide +kernel
theorem dX0_isEarOnTheWay_19 : decode cX0_isEarOnTheWay 19 = .ok (.getfield 37, 3) := by decide +kernel
theorem dX0_isEarOnTheWay_22 : decode cX0_isEarOnTheWay 22 = .ok (.aload_n 0, 1) := by decide +kernel
theorem dX0_isEarOnTheWay_23 : decode cX0_isEarOnTheWay 23 = .ok (.getfield 15, 3) := by decide +kernel
theorem dX0_isEarOnTheWay_26 : decode cX0_isEarOnTheWay 26 = .ok (.iload_n 1, 1) := by decide +kernel
theorem dX0_isEarOnTheWay_27 : decode cX0_isEarOnTheWay 27 = .ok (.iaload, 1) := by decide +kernel
theorem dX0_isEarOnTheWay_28 : decode cX0_isEarOnTheWay 28 = .ok (.isub, 1) := by decide +kernel
theorem dX0_isEarOnTheWay_29 : decode cX0_isEarOnTheWay 29 = .ok (.istore 4, 2) := by decide +kernel
theorem dX0_isEarOnTheWay_31 : decode cX0_isEarOnTheWay 31 = .ok (.aload_n 0, 1) := by decide +kernel
theorem dX0_isEarOnTheWay_32 : decode cX0_isEarOnTheWay 32 = .ok (.iload_n 1, 1) := by decide +kernel
theorem dX0_isEarOnTheWay_33 : decode cX0_isEarOnTheWay 33 = .ok (.invokevirtual 72, 3) := by decide +kernel
theorem dX0_isEarOnTheWay_36 : decode cX0_isEarOnTheWay 36 = .ok (.ifCond .ne 19, 3) := by decide +kernel
theorem dX0_isEarOnTheWay_39 : decode cX0_isEarOnTheWay 39 = .ok (.iload 4, 2) := by decide +kernel
theorem dX0_isEarOnTheWay_41 : decode cX0_isEarOnTheWay 41 = .ok (.iconst 1, 1) := by decide +kernel
theorem dX0_isEarOnTheWay_42 : decode cX0_isEarOnTheWay 42 = .ok (.if_icmp .lt 13, 3) := by decide +kernel
theorem dX0_isEarOnTheWay_45 : decode cX0_isEarOnTheWay 45 = .ok (.iload 4, 2) := by decide +kernel
theorem dX0_isEarOnTheWay_47 : decode cX0_isEarOnTheWay 47 = .ok (.iload_n 2, 1) := by decide +kernel
theorem dX0_isEarOnTheWay_48 : decode cX0_isEarOnTheWay 48 = .ok (.if_icmp .gt 7, 3) := by decide +kernel
theorem dX0_isEarOnTheWay_51 : decode cX0_isEarOnTheWay 51 = .ok (.iconst 1, 1) := by decide +kernel
theorem dX0_isEarOnTheWay_52 : decode cX0_isEarOnTheWay 52 = .ok (.goto 4, 3) := by decide +kernel
theorem dX0_isEarOnTheWay_55 : decode cX0_isEarOnTheWay 55 = .ok (.iconst 0, 1) := by decide +kernel
theorem dX0_isEarOnTheWay_56 : decode cX0_isEarOnTheWay 56 = .ok (.ireturn, 1) := by decide +kernel
theorem dX0_turn_0 : decode cX0_turn 0 = .ok (.iconst 0, 1) := by decide +kernel
theorem dX0_turn_1 : decode cX0_turn 1 = .ok (.istore_n 3, 1) := by decide +kernel
theorem dX0_turn_2 : decode cX0_turn 2 = .ok (.aload_n 0, 1) := by decide +kernel
theorem dX0_turn_3 : decode cX0_turn 3 = .ok (.getfield 30, 3) := by decide +kernel
theorem dX0_turn_6 : decode cX0_turn 6 = .ok (.iconst 1, 1) := by decide +kernel
theorem dX0_turn_7 : decode cX0_turn 7 = .ok (.isub, 1) := by decide +kernel
theorem dX0_turn_8 : decode cX0_turn 8 = .ok (.istore 4, 2) := by decide +kernel
theorem dX0_turn_10 : decode cX0_turn 10 = .ok (.iload 4, 2) := by decide +kernel
theorem dX0_turn_12 : decode cX0_turn 12 = .ok (.ifCond .lt 51, 3) := by decide +kernel
theorem dX0_turn_15 : decode cX0_turn 15 = .ok (.aload_n 0, 1) := by decide +kernel
theorem dX0_turn_16 : decode cX0_turn 16 = .ok (.iload 4, 2) := by decide +kernel
theorem dX0_turn_18 : decode cX0_turn 18 = .ok (.iload_n 1, 1) := by decide +kernel
theorem dX0_turn_19 : decode cX0_turn 19 = .ok (.iload_n 2, 1) := by decide +kernel
theorem dX0_turn_20 : decode cX0_turn 20 = .ok (.invokevirtual 197, 3) := by decide +kernel
theorem dX0_turn_23 : decode cX0_turn 23 = .ok (.ifCond .eq 34, 3) := by decide +kernel
theorem dX0_turn_26 : decode cX0_turn 26 = .ok (.aload_n 0, 1) := by decide +kernel
theorem dX0_turn_27 : decode cX0_turn 27 = .ok (.getfield 21, 3) := by decide +kernel
theorem dX0_turn_30 : decode cX0_turn 30 = .ok (.iload 4, 2) := by decide +kernel
theorem dX0_turn_32 : decode cX0_turn 32 = .ok (.dup2, 1) := by decide +kernel
theorem dX0_turn_33 : decode cX0_turn 33 = .ok (.iaload, 1) := by decide +kernel
theorem dX0_turn_34 : decode cX0_turn 34 = .ok (.iconst 1, 1) := by decide +kernel
theorem dX0_turn_35 : decode cX0_turn 35 = .ok (.iadd, 1) := by decide +kernel
theorem dX0_turn_36 : decode cX0_turn 36 = .ok (.iastore, 1) := by decide +kernel
theorem dX0_turn_37 : decode cX0_turn 37 = .ok (.aload_n 0, 1) := by decide +kernel
theorem dX0_turn_38 : decode cX0_turn 38 = .ok (.getfield 21, 3) := by decide +kernel
theorem dX0_turn_41 : decode cX0_turn 41 = .ok (.iload 4, 2) := by decide +kernel
theorem dX0_turn_43 : decode cX0_turn 43 = .ok (.iaload, 1) := by decide +kernel
theorem dX0_turn_44 : decode cX0_turn 44 = .ok (.iconst 3, 1) := by decide +kernel
theorem dX0_turn_45 : decode cX0_turn 45 = .ok (.if_icmp .lt 12, 3) := by decide +kernel
theorem dX0_turn_48 : decode cX0_turn 48 = .ok (.aload_n 0, 1) := by decide +kernel
theorem dX0_turn_49 : decode cX0_turn 49 = .ok (.iload 4, 2) := by decide +kernel
theorem dX0_turn_51 : decode cX0_turn 51 = .ok (.invokevirtual 180, 3) := by decide +kernel
theorem dX0_turn_54 : decode cX0_turn 54 = .ok (.iinc 3 1, 3) := by decide +kernel
theorem dX0_turn_57 : decode cX0_turn 57 = .ok (.iinc 4 (-1), 3) := by decide +kernel
theorem dX0_turn_60 : decode cX0_turn 60 = .ok (.goto (-50), 3) := by decide +kernel
theorem dX0_turn_63 : decode cX0_turn 63 = .ok (.aload_n 0, 1) := by decide +kernel
theorem dX0_turn_64 : decode cX0_turn 64 = .ok (.dup, 1) := by decide +kernel
theorem dX0_turn_65 : decode cX0_turn 65 = .ok (.getfield 49, 3) := by decide +kernel
theorem dX0_turn_68 : decode cX0_turn 68 = .ok (.iload_n 3, 1) := by decide +kernel
theorem dX0_turn_69 : decode cX0_turn 69 = .ok (.iadd, 1) := by decide +kernel
theorem dX0_turn_70 : decode cX0_turn 70 = .ok (.putfield 49, 3) := by decide +kernel
theorem dX0_turn_73 : decode cX0_turn 73 = .ok (.aload_n 0, 1) := by decide +kernel
theorem dX0_turn_74 : decode cX0_turn 74 = .ok (.iload_n 2, 1) := by decide +kernel
theorem dX0_turn_75 : decode cX0_turn 75 = .ok (.ifCond .eq 12, 3) := by decide +kernel
theorem dX0_turn_78 : decode cX0_turn 78 = .ok (.aload_n 0, 1) := by decide +kernel
theorem dX0_turn_79 : decode cX0_turn 79 = .ok (.getfield 37, 3) := by decide +kernel
theorem dX0_turn_82 : decode cX0_turn 82 = .ok (.iload_n 1, 1) := by decide +kernel
theorem dX0_turn_83 : decode cX0_turn 83 = .ok (.iadd, 1) := by decide +kernel
theorem dX0_turn_84 : decode cX0_turn 84 = .ok (.goto 9, 3) := by decide +kernel
theorem dX0_turn_87 : decode cX0_turn 87 = .ok (.aload_n 0, 1) := by decide +kernel
theorem dX0_turn_88 : decode cX0_turn 88 = .ok (.getfield 37, 3) := by decide +kernel
theorem dX0_turn_91 : decode cX0_turn 91 = .ok (.iload_n 1, 1) := by decide +kernel
theorem dX0_turn_92 : decode cX0_turn 92 = .ok (.isub, 1) := by decide +kernel
theorem dX0_turn_93 : decode cX0_turn 93 = .ok (.putfield 37, 3) := by decide +kernel
theorem dX0_turn_96 : decode cX0_turn 96 = .ok (.iload_n 3, 1) := by decide +kernel
theorem dX0_turn_97 : decode cX0_turn 97 = .ok (.ireturn, 1) := by decide +kernel
theorem dX0_carryOut_0 : decode cX0_carryOut 0 = .ok (.iload_n 1, 1) := by decide +kernel
theorem dX0_carryOut_1 : decode cX0_carryOut 1 = .ok (.tableswitch 185 67 88 #[158, 185, 114, 185, 185, 185, 185, 185, 185, 185, 132, 185, 185, 185, 185, 103, 143, 178, 185, 164, 185, 122], 103) := by decide +kernel
theorem dX0_carryOut_104 : decode cX0_carryOut 104 = .ok (.aload_n 0, 1) := by decide +kernel
theorem dX0_carryOut_105 : decode cX0_carryOut 105 = .ok (.iload_n 2, 1) := by decide +kernel
theorem dX0_carryOut_106 : decode cX0_carryOut 106 = .ok (.iload_n 3, 1) := by decide +kernel
theorem dX0_carryOut_107 : decode cX0_carryOut 107 = .ok (.aload_n 0, 1) := by decide +kernel
theorem dX0_carryOut_108 : decode cX0_carryOut 108 = .ok (.invokevirtual 141, 3) := by decide +kernel
theorem dX0_carryOut_111 : decode cX0_carryOut 111 = .ok (.invokevirtual 153, 3) := by decide +kernel
theorem dX0_carryOut_114 : decode cX0_carryOut 114 = .ok (.ireturn, 1) := by decide +kernel
theorem dX0_carryOut_115 : decode cX0_carryOut 115 = .ok (.aload_n 0, 1) := by decide +kernel
theorem dX0_carryOut_116 : decode cX0_carryOut 116 = .ok (.iload_n 2, 1) := by decide +kernel
theorem dX0_carryOut_117 : decode cX0_carryOut 117 = .ok (.iload_n 3, 1) := by decide +kernel
theorem dX0_carryOut_118 : decode cX0_carryOut 118 = .ok (.iconst (-1), 1) := by decide +kernel
theorem dX0_carryOut_119 : decode cX0_carryOut 119 = .ok (.invokevirtual 153, 3) := by decide +kernel
theorem dX0_carryOut_122 : decode cX0_carryOut 122 = .ok (.ireturn, 1) := by decide +kernel
theorem dX0_carryOut_123 : decode cX0_carryOut 123 = .ok (.aload_n 0, 1) := by decide +kernel
theorem dX0_carryOut_124 : decode cX0_carryOut 124 = .ok (.aload_n 0, 1) := by decide +kernel
theorem dX0_carryOut_125 : decode cX0_carryOut 125 = .ok (.iload_n 2, 1) := by decide +kernel
theorem dX0_carryOut_126 : decode cX0_carryOut 126 = .ok (.invokevirtual 116, 3) := by decide +kernel
theorem dX0_carryOut_129 : decode cX0_carryOut 129 = .ok (.invokevirtual 157, 3) := by decide +kernel
theorem dX0_carryOut_132 : decode cX0_carryOut 132 = .ok (.ireturn, 1) := by decide +kernel
theorem dX0_carryOut_133 : decode cX0_carryOut 133 = .ok (.aload_n 0, 1) := by decide +kernel
theorem dX0_carryOut_134 : decode cX0_carryOut 134 = .ok (.aload_n 0, 1) := by decide +kernel
theorem dX0_carryOut_135 : decode cX0_carryOut 135 = .ok (.iload_n 2, 1) := by decide +kernel
theorem dX0_carryOut_136 : decode cX0_carryOut 136 = .ok (.invokevirtual 116, 3) := by decide +kernel
theorem dX0_carryOut_139 : decode cX0_carryOut 139 = .ok (.iload_n 3, 1) := by decide +kernel
theorem dX0_carryOut_140 : decode cX0_carryOut 140 = .ok (.invokevirtual 160, 3) := by decide +kernel
theorem dX0_carryOut_143 : decode cX0_carryOut 143 = .ok (.ireturn, 1) := by decide +kernel
theorem dX0_carryOut_144 : decode cX0_carryOut 144 = .ok (.aload_n 0, 1) := by decide +kernel
theorem dX0_carryOut_145 : decode cX0_carryOut 145 = .ok (.aload_n 0, 1) := by decide +kernel
theorem dX0_carryOut_146 : decode cX0_carryOut 146 = .ok (.iload_n 2, 1) := by decide +kernel
theorem dX0_carryOut_147 : decode cX0_carryOut 147 = .ok (.invokevirtual 116, 3) := by decide +kernel
theorem dX0_carryOut_150 : decode cX0_carryOut 150 = .ok (.aload_n 0, 1) := by decide +kernel
theorem dX0_carryOut_151 : decode cX0_carryOut 151 = .ok (.iload_n 3, 1) := by decide +kernel
theorem dX0_carryOut_152 : decode cX0_carryOut 152 = .ok (.invokevirtual 116, 3) := by decide +kernel
theorem dX0_carryOut_155 : decode cX0_carryOut 155 = .ok (.invokevirtual 163, 3) := by decide +kernel
theorem dX0_carryOut_158 : decode cX0_carryOut 158 = .ok (.ireturn, 1) := by decide +kernel
theorem dX0_carryOut_159 : decode cX0_carryOut 159 = .ok (.aload_n 0, 1) := by decide +kernel
theorem dX0_carryOut_160 : decode cX0_carryOut 160 = .ok (.iload_n 2, 1) := by decide +kernel
theorem dX0_carryOut_161 : decode cX0_carryOut 161 = .ok (.invokevirtual 166, 3) := by decide +kernel
theorem dX0_carryOut_164 : decode cX0_carryOut 164 = .ok (.ireturn, 1) := by decide +kernel
theorem dX0_carryOut_165 : decode cX0_carryOut 165 = .ok (.aload_n 0, 1) := by decide +kernel
theorem dX0_carryOut_166 : decode cX0_carryOut 166 = .ok (.iload_n 2, 1) := by decide +kernel
theorem dX0_carryOut_167 : decode cX0_carryOut 167 = .ok (.invokevirtual 169, 3) := by decide +kernel
theorem dX0_carryOut_170 : decode cX0_carryOut 170 = .ok (.ifCond .eq 7, 3) := by decide +kernel
theorem dX0_carryOut_173 : decode cX0_carryOut 173 = .ok (.iconst 1, 1) := by decide +kernel
theorem dX0_carryOut_174 : decode cX0_carryOut 174 = .ok (.goto 4, 3) := by decide +kernel
theorem dX0_carryOut_177 : decode cX0_carryOut 177 = .ok (.iconst 0, 1) := by decide +kernel
theorem dX0_carryOut_178 : decode cX0_carryOut 178 = .ok (.ireturn, 1) := by decide +kernel
theorem dX0_carryOut_179 : decode cX0_carryOut 179 = .ok (.aload_n 0, 1) := by decide +kernel
theorem dX0_carryOut_180 : decode cX0_carryOut 180 = .ok (.iload_n 2, 1) := by decide +kernel
theorem dX0_carryOut_181 : decode cX0_carryOut 181 = .ok (.iconst 1, 1) := by decide +kernel
theorem dX0_carryOut_182 : decode cX0_carryOut 182 = .ok (.invokevirtual 172, 3) := by decide +kernel
theorem dX0_carryOut_185 : decode cX0_carryOut 185 = .ok (.ireturn, 1) := by decide +kernel
theorem dX0_carryOut_186 : decode cX0_carryOut 186 = .ok (.aload_n 0, 1) := by decide +kernel
theorem dX0_carryOut_187 : decode cX0_carryOut 187 = .ok (.iload_n 2, 1) := by decide +kernel
theorem dX0_carryOut_188 : decode cX0_carryOut 188 = .ok (.iconst 0, 1) := by decide +kernel
theorem dX0_carryOut_189 : decode cX0_carryOut 189 = .ok (.invokevirtual 172, 3) := by decide +kernel
theorem dX0_carryOut_192 : decode cX0_carryOut 192 = .ok (.ireturn, 1) := by decide +kernel
theorem dX0_earsAboutToFall_0 : decode cX0_earsAboutToFall 0 = .ok (.iconst 0, 1) := by decide +kernel
theorem dX0_earsAboutToFall_1 : decode cX0_earsAboutToFall 1 = .ok (.istore_n 3, 1) := by decide +kernel
theorem dX0_earsAboutToFall_2 : decode cX0_earsAboutToFall 2 = .ok (.iconst 0, 1) := by decide +kernel
theorem dX0_earsAboutToFall_3 : decode cX0_earsAboutToFall 3 = .ok (.istore 4, 2) := by decide +kernel
theorem dX0_earsAboutToFall_5 : decode cX0_earsAboutToFall 5 = .ok (.iload 4, 2) := by decide +kernel
theorem dX0_earsAboutToFall_7 : decode cX0_earsAboutToFall 7 = .ok (.aload_n 0, 1) := by decide +kernel
theorem dX0_earsAboutToFall_8 : decode cX0_earsAboutToFall 8 = .ok (.getfield 30, 3) := by decide +kernel
theorem dX0_earsAboutToFall_11 : decode cX0_earsAboutToFall 11 = .ok (.if_icmp .ge 36, 3) := by decide +kernel
theorem dX0_earsAboutToFall_14 : decode cX0_earsAboutToFall 14 = .ok (.aload_n 0, 1) := by decide +kernel
theorem dX0_earsAboutToFall_15 : decode cX0_earsAboutToFall 15 = .ok (.iload 4, 2) := by decide +kernel
theorem dX0_earsAboutToFall_17 : decode cX0_earsAboutToFall 17 = .ok (.iload_n 1, 1) := by decide +kernel
theorem dX0_earsAboutToFall_18 : decode cX0_earsAboutToFall 18 = .ok (.iload_n 2, 1) := by decide +kernel
theorem dX0_earsAboutToFall_19 : decode cX0_earsAboutToFall 19 = .ok (.invokevirtual 197, 3) := by decide +kernel
theorem dX0_earsAboutToFall_22 : decode cX0_earsAboutToFall 22 = .ok (.ifCond .eq 19, 3) := by decide +kernel
theorem dX0_earsAboutToFall_25 : decode cX0_earsAboutToFall 25 = .ok (.aload_n 0, 1) := by decide +kernel
theorem dX0_earsAboutToFall_26 : decode cX0_earsAboutToFall 26 = .ok (.getfield 21, 3) := by decide +kernel
theorem dX0_earsAboutToFall_29 : decode cX0_earsAboutToFall 29 = .ok (.iload 4, 2) := by decide +kernel
theorem dX0_earsAboutToFall_31 : decode cX0_earsAboutToFall 31 = .ok (.iaload, 1) := by decide +kernel
theorem dX0_earsAboutToFall_32 : decode cX0_earsAboutToFall 32 = .ok (.iconst 1, 1) := by decide +kernel
theorem dX0_earsAboutToFall_33 : decode cX0_earsAboutToFall 33 = .ok (.iadd, 1) := by decide +kernel
theorem dX0_earsAboutToFall_34 : decode cX0_earsAboutToFall 34 = .ok (.iconst 3, 1) := by decide +kernel
theorem dX0_earsAboutToFall_35 : decode cX0_earsAboutToFall 35 = .ok (.if_icmp .lt 6, 3) := by decide +kernel
theorem dX0_earsAboutToFall_38 : decode cX0_earsAboutToFall 38 = .ok (.iinc 3 1, 3) := by decide +kernel
theorem dX0_earsAboutToFall_41 : decode cX0_earsAboutToFall 41 = .ok (.iinc 4 1, 3) := by decide +kernel
theorem dX0_earsAboutToFall_44 : decode cX0_earsAboutToFall 44 = .ok (.goto (-39), 3) := by decide +kernel
theorem dX0_earsAboutToFall_47 : decode cX0_earsAboutToFall 47 = .ok (.iload_n 3, 1) := by decide +kernel
theorem dX0_earsAboutToFall_48 : decode cX0_earsAboutToFall 48 = .ok (.ireturn, 1) := by decide +kernel
theorem dX0_copyFrom_0 : decode cX0_copyFrom 0 = .ok (.aload_n 1, 1) := by decide +kernel
theorem dX0_copyFrom_1 : decode cX0_copyFrom 1 = .ok (.getfield 9, 3) := by decide +kernel
theorem dX0_copyFrom_4 : decode cX0_copyFrom 4 = .ok (.iconst 0, 1) := by decide +kernel
theorem dX0_copyFrom_5 : decode cX0_copyFrom 5 = .ok (.aload_n 0, 1) := by decide +kernel
theorem dX0_copyFrom_6 : decode cX0_copyFrom 6 = .ok (.getfield 9, 3) := by decide +kernel
theorem dX0_copyFrom_9 : decode cX0_copyFrom 9 = .ok (.iconst 0, 1) := by decide +kernel
theorem dX0_copyFrom_10 : decode cX0_copyFrom 10 = .ok (.bipush 12, 2) := by decide +kernel
theorem dX0_copyFrom_12 : decode cX0_copyFrom 12 = .ok (.invokestatic 52, 3) := by decide +kernel
theorem dX0_copyFrom_15 : decode cX0_copyFrom 15 = .ok (.aload_n 1, 1) := by decide +kernel
theorem dX0_copyFrom_16 : decode cX0_copyFrom 16 = .ok (.getfield 15, 3) := by decide +kernel
theorem dX0_copyFrom_19 : decode cX0_copyFrom 19 = .ok (.iconst 0, 1) := by decide +kernel
theorem dX0_copyFrom_20 : decode cX0_copyFrom 20 = .ok (.aload_n 0, 1) := by decide +kernel
theorem dX0_copyFrom_21 : decode cX0_copyFrom 21 = .ok (.getfield 15, 3) := by decide +kernel
theorem dX0_copyFrom_24 : decode cX0_copyFrom 24 = .ok (.iconst 0, 1) := by decide +kernel
theorem dX0_copyFrom_25 : decode cX0_copyFrom 25 = .ok (.bipush 12, 2) := by decide +kernel
theorem dX0_copyFrom_27 : decode cX0_copyFrom 27 = .ok (.invokestatic 52, 3) := by decide +kernel
theorem dX0_copyFrom_30 : decode cX0_copyFrom 30 = .ok (.aload_n 1, 1) := by decide +kernel
theorem dX0_copyFrom_31 : decode cX0_copyFrom 31 = .ok (.getfield 18, 3) := by decide +kernel
theorem dX0_copyFrom_34 : decode cX0_copyFrom 34 = .ok (.iconst 0, 1) := by decide +kernel
theorem dX0_copyFrom_35 : decode cX0_copyFrom 35 = .ok (.aload_n 0, 1) := by decide +kernel
theorem dX0_copyFrom_36 : decode cX0_copyFrom 36 = .ok (.getfield 18, 3) := by decide +kernel
theorem dX0_copyFrom_39 : decode cX0_copyFrom 39 = .ok (.iconst 0, 1) := by decide +kernel
theorem dX0_copyFrom_40 : decode cX0_copyFrom 40 = .ok (.bipush 12, 2) := by decide +kernel
theorem dX0_copyFrom_42 : decode cX0_copyFrom 42 = .ok (.invokestatic 52, 3) := by decide +kernel
theorem dX0_copyFrom_45 : decode cX0_copyFrom 45 = .ok (.aload_n 1, 1) := by decide +kernel
theorem dX0_copyFrom_46 : decode cX0_copyFrom 46 = .ok (.getfield 21, 3) := by decide +kernel
theorem dX0_copyFrom_49 : decode cX0_copyFrom 49 = .ok (.iconst 0, 1) := by decide +kernel
theorem dX0_copyFrom_50 : decode cX0_copyFrom 50 = .ok (.aload_n 0, 1) := by decide +kernel
theorem dX0_copyFrom_51 : decode cX0_copyFrom 51 = .ok (.getfield 21, 3) := by decide +kernel
theorem dX0_copyFrom_54 : decode cX0_copyFrom 54 = .ok (.iconst 0, 1) := by decide +kernel
theorem dX0_copyFrom_55 : decode cX0_copyFrom 55 = .ok (.bipush 12, 2) := by decide +kernel
theorem dX0_copyFrom_57 : decode cX0_copyFrom 57 = .ok (.invokestatic 52, 3) := by decide +kernel
theorem dX0_copyFrom_60 : decode cX0_copyFrom 60 = .ok (.aload_n 1, 1) := by decide +kernel
theorem dX0_copyFrom_61 : decode cX0_copyFrom 61 = .ok (.getfield 24, 3) := by decide +kernel
theorem dX0_copyFrom_64 : decode cX0_copyFrom 64 = .ok (.iconst 0, 1) := by decide +kernel
theorem dX0_copyFrom_65 : decode cX0_copyFrom 65 = .ok (.aload_n 0, 1) := by decide +kernel
theorem dX0_copyFrom_66 : decode cX0_copyFrom 66 = .ok (.getfield 24, 3) := by decide +kernel
theorem dX0_copyFrom_69 : decode cX0_copyFrom 69 = .ok (.iconst 0, 1) := by decide +kernel
theorem dX0_copyFrom_70 : decode cX0_copyFrom 70 = .ok (.bipush 12, 2) := by decide +kernel
theorem dX0_copyFrom_72 : decode cX0_copyFrom 72 = .ok (.invokestatic 52, 3) := by decide +kernel
theorem dX0_copyFrom_75 : decode cX0_copyFrom 75 = .ok (.aload_n 1, 1) := by decide +kernel
theorem dX0_copyFrom_76 : decode cX0_copyFrom 76 = .ok (.getfield 27, 3) := by decide +kernel
theorem dX0_copyFrom_79 : decode cX0_copyFrom 79 = .ok (.iconst 0, 1) := by decide +kernel
theorem dX0_copyFrom_80 : decode cX0_copyFrom 80 = .ok (.aload_n 0, 1) := by decide +kernel
theorem dX0_copyFrom_81 : decode cX0_copyFrom 81 = .ok (.getfield 27, 3) := by decide +kernel
theorem dX0_copyFrom_84 : decode cX0_copyFrom 84 = .ok (.iconst 0, 1) := by decide +kernel
theorem dX0_copyFrom_85 : decode cX0_copyFrom 85 = .ok (.bipush 8, 2) := by decide +kernel
theorem dX0_copyFrom_87 : decode cX0_copyFrom 87 = .ok (.invokestatic 52, 3) := by decide +kernel
theorem dX0_copyFrom_90 : decode cX0_copyFrom 90 = .ok (.aload_n 0, 1) := by decide +kernel
theorem dX0_copyFrom_91 : decode cX0_copyFrom 91 = .ok (.aload_n 1, 1) := by decide +kernel
theorem dX0_copyFrom_92 : decode cX0_copyFrom 92 = .ok (.getfield 30, 3) := by decide +kernel
theorem dX0_copyFrom_95 : decode cX0_copyFrom 95 = .ok (.putfield 30, 3) := by decide +kernel
theorem dX0_copyFrom_98 : decode cX0_copyFrom 98 = .ok (.aload_n 0, 1) := by decide +kernel
theorem dX0_copyFrom_99 : decode cX0_copyFrom 99 = .ok (.aload_n 1, 1) := by decide +kernel
theorem dX0_copyFrom_100 : decode cX0_copyFrom 100 = .ok (.getfield 34, 3) := by decide +kernel
theorem dX0_copyFrom_103 : decode cX0_copyFrom 103 = .ok (.putfield 34, 3) := by decide +kernel
theorem dX0_copyFrom_106 : decode cX0_copyFrom 106 = .ok (.aload_n 0, 1) := by decide +kernel
theorem dX0_copyFrom_107 : decode cX0_copyFrom 107 = .ok (.aload_n 1, 1) := by decide +kernel
theorem dX0_copyFrom_108 : decode cX0_copyFrom 108 = .ok (.getfield 37, 3) := by decide +kernel
theorem dX0_copyFrom_111 : decode cX0_copyFrom 111 = .ok (.putfield 37, 3) := by decide +kernel
theorem dX0_copyFrom_114 : decode cX0_copyFrom 114 = .ok (.aload_n 0, 1) := by decide +kernel
theorem dX0_copyFrom_115 : decode cX0_copyFrom 115 = .ok (.aload_n 1, 1) := by decide +kernel
theorem dX0_copyFrom_116 : decode cX0_copyFrom 116 = .ok (.getfield 40, 3) := by decide +kernel
theorem dX0_copyFrom_119 : decode cX0_copyFrom 119 = .ok (.putfield 40, 3) := by decide +kernel
theorem dX0_copyFrom_122 : decode cX0_copyFrom 122 = .ok (.aload_n 0, 1) := by decide +kernel
theorem dX0_copyFrom_123 : decode cX0_copyFrom 123 = .ok (.aload_n 1, 1) := by decide +kernel
theorem dX0_copyFrom_124 : decode cX0_copyFrom 124 = .ok (.getfield 43, 3) := by decide +kernel
theorem dX0_copyFrom_127 : decode cX0_copyFrom 127 = .ok (.putfield 43, 3) := by decide +kernel
theorem dX0_copyFrom_130 : decode cX0_copyFrom 130 = .ok (.aload_n 0, 1) := by decide +kernel
theorem dX0_copyFrom_131 : decode cX0_copyFrom 131 = .ok (.aload_n 1, 1) := by decide +kernel
theorem dX0_copyFrom_132 : decode cX0_copyFrom 132 = .ok (.getfield 46, 3) := by decide +kernel
theorem dX0_copyFrom_135 : decode cX0_copyFrom 135 = .ok (.putfield 46, 3) := by decide +kernel
theorem dX0_copyFrom_138 : decode cX0_copyFrom 138 = .ok (.aload_n 0, 1) := by decide +kernel
theorem dX0_copyFrom_139 : decode cX0_copyFrom 139 = .ok (.aload_n 1, 1) := by decide +kernel
theorem dX0_copyFrom_140 : decode cX0_copyFrom 140 = .ok (.getfield 49, 3) := by decide +kernel
theorem dX0_copyFrom_143 : decode cX0_copyFrom 143 = .ok (.putfield 49, 3) := by decide +kernel
theorem dX0_copyFrom_146 : decode cX0_copyFrom 146 = .ok (.return_, 1) := by decide +kernel
theorem dX1_remember_0 : decode cX1_remember 0 = .ok (.aload_n 0, 1) := by decide +kernel
theorem dX1_remember_1 : decode cX1_remember 1 = .ok (.getfield 11, 3) := by decide +kernel
theorem dX1_remember_4 : decode cX1_remember 4 = .ok (.aload_n 0, 1) := by decide +kernel
theorem dX1_remember_5 : decode cX1_remember 5 = .ok (.getfield 21, 3) := by decide +kernel
theorem dX1_remember_8 : decode cX1_remember 8 = .ok (.aaload, 1) := by decide +kernel
theorem dX1_remember_9 : decode cX1_remember 9 = .ok (.aload_n 1, 1) := by decide +kernel
theorem dX1_remember_10 : decode cX1_remember 10 = .ok (.invokevirtual 25, 3) := by decide +kernel
theorem dX1_remember_13 : decode cX1_remember 13 = .ok (.aload_n 0, 1) := by decide +kernel
theorem dX1_remember_14 : decode cX1_remember 14 = .ok (.aload_n 0, 1) := by decide +kernel
theorem dX1_remember_15 : decode cX1_remember 15 = .ok (.getfield 21, 3) := by decide +kernel
theorem dX1_remember_18 : decode cX1_remember 18 = .ok (.iconst 1, 1) := by decide +kernel
theorem dX1_remember_19 : decode cX1_remember 19 = .ok (.iadd, 1) := by decide +kernel
theorem dX1_remember_20 : decode cX1_remember 20 = .ok (.bipush 8, 2) := by decide +kernel
theorem dX1_remember_22 : decode cX1_remember 22 = .ok (.if_icmp .ge 12, 3) := by decide +kernel
theorem dX1_remember_25 : decode cX1_remember 25 = .ok (.aload_n 0, 1) := by decide +kernel
theorem dX1_remember_26 : decode cX1_remember 26 = .ok (.getfield 21, 3) := by decide +kernel
theorem dX1_remember_29 : decode cX1_remember 29 = .ok (.iconst 1, 1) := by decide +kernel
theorem dX1_remember_30 : decode cX1_remember 30 = .ok (.iadd, 1) := by decide +kernel
theorem dX1_remember_31 : decode cX1_remember 31 = .ok (.goto 4, 3) := by decide +kernel
theorem dX1_remember_34 : decode cX1_remember 34 = .ok (.iconst 0, 1) := by decide +kernel
theorem dX1_remember_35 : decode cX1_remember 35 = .ok (.putfield 21, 3) := by decide +kernel
theorem dX1_remember_38 : decode cX1_remember 38 = .ok (.aload_n 0, 1) := by decide +kernel
theorem dX1_remember_39 : decode cX1_remember 39 = .ok (.getfield 17, 3) := by decide +kernel
theorem dX1_remember_42 : decode cX1_remember 42 = .ok (.bipush 8, 2) := by decide +kernel
theorem dX1_remember_44 : decode cX1_remember 44 = .ok (.if_icmp .ge 13, 3) := by decide +kernel
theorem dX1_remember_47 : decode cX1_remember 47 = .ok (.aload_n 0, 1) := by decide +kernel
theorem dX1_remember_48 : decode cX1_remember 48 = .ok (.dup, 1) := by decide +kernel
theorem dX1_remember_49 : decode cX1_remember 49 = .ok (.getfield 17, 3) := by decide +kernel
theorem dX1_remember_52 : decode cX1_remember 52 = .ok (.iconst 1, 1) := by decide +kernel
theorem dX1_remember_53 : decode cX1_remember 53 = .ok (.iadd, 1) := by decide +kernel
theorem dX1_remember_54 : decode cX1_remember 54 = .ok (.putfield 17, 3) := by decide +kernel
theorem dX1_remember_57 : decode cX1_remember 57 = .ok (.return_, 1) := by decide +kernel
theorem dX3_requirePage_0 : decode cX3_requirePage 0 = .ok (.aload_n 0, 1) := by decide +kernel
theorem dX3_requirePage_1 : decode cX3_requirePage 1 = .ok (.getfield 10, 3) := by decide +kernel
theorem dX3_requirePage_4 : decode cX3_requirePage 4 = .ok (.iload_n 1, 1) := by decide +kernel
theorem dX3_requirePage_5 : decode cX3_requirePage 5 = .ok (.invokevirtual 330, 3) := by decide +kernel
theorem dX3_requirePage_8 : decode cX3_requirePage 8 = .ok (.ifCond .ne 14, 3) := by decide +kernel
theorem dX3_requirePage_11 : decode cX3_requirePage 11 = .ok (.new 106, 3) := by decide +kernel
theorem dX3_requirePage_14 : decode cX3_requirePage 14 = .ok (.dup, 1) := by decide +kernel
theorem dX3_requirePage_15 : decode cX3_requirePage 15 = .ok (.ldc_w 333, 3) := by decide +kernel
theorem dX3_requirePage_18 : decode cX3_requirePage 18 = .ok (.invokespecial 110, 3) := by decide +kernel
theorem dX3_requirePage_21 : decode cX3_requirePage 21 = .ok (.athrow, 1) := by decide +kernel
theorem dX3_requirePage_22 : decode cX3_requirePage 22 = .ok (.return_, 1) := by decide +kernel
theorem dX3_requireWeight_0 : decode cX3_requireWeight 0 = .ok (.aload_n 0, 1) := by decide +kernel
theorem dX3_requireWeight_1 : decode cX3_requireWeight 1 = .ok (.getfield 10, 3) := by decide +kernel
theorem dX3_requireWeight_4 : decode cX3_requireWeight 4 = .ok (.iload_n 1, 1) := by decide +kernel
theorem dX3_requireWeight_5 : decode cX3_requireWeight 5 = .ok (.invokevirtual 335, 3) := by decide +kernel
theorem dX3_requireWeight_8 : decode cX3_requireWeight 8 = .ok (.ifCond .ne 14, 3) := by decide +kernel
theorem dX3_requireWeight_11 : decode cX3_requireWeight 11 = .ok (.new 256, 3) := by decide +kernel
theorem dX3_requireWeight_14 : decode cX3_requireWeight 14 = .ok (.dup, 1) := by decide +kernel
theorem dX3_requireWeight_15 : decode cX3_requireWeight 15 = .ok (.ldc_w 338, 3) := by decide +kernel
theorem dX3_requireWeight_18 : decode cX3_requireWeight 18 = .ok (.invokespecial 260, 3) := by decide +kernel
theorem dX3_requireWeight_21 : decode cX3_requireWeight 21 = .ok (.athrow, 1) := by decide +kernel
theorem dX3_requireWeight_22 : decode cX3_requireWeight 22 = .ok (.return_, 1) := by decide +kernel
theorem dX3_noteRejection_0 : decode cX3_noteRejection 0 = .ok (.aload_n 0, 1) := by decide +kernel
theorem dX3_noteRejection_1 : decode cX3_noteRejection 1 = .ok (.iload_n 1, 1) := by decide +kernel
theorem dX3_noteRejection_2 : decode cX3_noteRejection 2 = .ok (.putfield 51, 3) := by decide +kernel
theorem dX3_noteRejection_5 : decode cX3_noteRejection 5 = .ok (.aload_n 0, 1) := by decide +kernel
theorem dX3_noteRejection_6 : decode cX3_noteRejection 6 = .ok (.iload_n 2, 1) := by decide +kernel
theorem dX3_noteRejection_7 : decode cX3_noteRejection 7 = .ok (.putfield 54, 3) := by decide +kernel
theorem dX3_noteRejection_10 : decode cX3_noteRejection 10 = .ok (.aload_n 0, 1) := by decide +kernel
theorem dX3_noteRejection_11 : decode cX3_noteRejection 11 = .ok (.iload_n 3, 1) := by decide +kernel
theorem dX3_noteRejection_12 : decode cX3_noteRejection 12 = .ok (.putfield 57, 3) := by decide +kernel
theorem dX3_noteRejection_15 : decode cX3_noteRejection 15 = .ok (.return_, 1) := by decide +kernel
theorem dX3_changeUnlessRejected_0 : decode cX3_changeUnlessRejected 0 = .ok (.aload_n 0, 1) := by decide +kernel
theorem dX3_changeUnlessRejected_1 : decode cX3_changeUnlessRejected 1 = .ok (.getfield 10, 3) := by decide +kernel
theorem dX3_changeUnlessRejected_4 : decode cX3_changeUnlessRejected 4 = .ok (.iload_n 1, 1) := by decide +kernel
theorem dX3_changeUnlessRejected_5 : decode cX3_changeUnlessRejected 5 = .ok (.iload_n 2, 1) := by decide +kernel
theorem dX3_changeUnlessRejected_6 : decode cX3_changeUnlessRejected 6 = .ok (.iload_n 3, 1) := by decide +kernel
theorem dX3_changeUnlessRejected_7 : decode cX3_changeUnlessRejected 7 = .ok (.invokevirtual 298, 3) := by decide +kernel
theorem dX3_changeUnlessRejected_10 : decode cX3_changeUnlessRejected 10 = .ok (.istore 4, 2) := by decide +kernel
theorem dX3_changeUnlessRejected_12 : decode cX3_changeUnlessRejected 12 = .ok (.iload 4, 2) := by decide +kernel
theorem dX3_changeUnlessRejected_14 : decode cX3_changeUnlessRejected 14 = .ok (.ifCond .eq 33, 3) := by decide +kernel
theorem dX3_changeUnlessRejected_17 : decode cX3_changeUnlessRejected 17 = .ok (.aload_n 0, 1) := by decide +kernel
theorem dX3_changeUnlessRejected_18 : decode cX3_changeUnlessRejected 18 = .ok (.iload 4, 2) := by decide +kernel
theorem dX3_changeUnlessRejected_20 : decode cX3_changeUnlessRejected 20 = .ok (.aload_n 0, 1) := by decide +kernel
theorem dX3_changeUnlessRejected_21 : decode cX3_changeUnlessRejected 21 = .ok (.getfield 10, 3) := by decide +kernel
theorem dX3_changeUnlessRejected_24 : decode cX3_changeUnlessRejected 24 = .ok (.iload 4, 2) := by decide +kernel
theorem dX3_changeUnlessRejected_26 : decode cX3_changeUnlessRejected 26 = .ok (.iload_n 1, 1) := by decide +kernel
theorem dX3_changeUnlessRejected_27 : decode cX3_changeUnlessRejected 27 = .ok (.iload_n 2, 1) := by decide +kernel
theorem dX3_changeUnlessRejected_28 : decode cX3_changeUnlessRejected 28 = .ok (.iload_n 3, 1) := by decide +kernel
theorem dX3_changeUnlessRejected_29 : decode cX3_changeUnlessRejected 29 = .ok (.invokevirtual 362, 3) := by decide +kernel
theorem dX3_changeUnlessRejected_32 : decode cX3_changeUnlessRejected 32 = .ok (.iconst 0, 1) := by decide +kernel
theorem dX3_changeUnlessRejected_33 : decode cX3_changeUnlessRejected 33 = .ok (.invokevirtual 301, 3) := by decide +kernel
theorem dX3_changeUnlessRejected_36 : decode cX3_changeUnlessRejected 36 = .ok (.new 305, 3) := by decide +kernel
theorem dX3_changeUnlessRejected_39 : decode cX3_changeUnlessRejected 39 = .ok (.dup, 1) := by decide +kernel
theorem dX3_changeUnlessRejected_40 : decode cX3_changeUnlessRejected 40 = .ok (.ldc_w 366, 3) := by decide +kernel
theorem dX3_changeUnlessRejected_43 : decode cX3_changeUnlessRejected 43 = .ok (.invokespecial 309, 3) := by decide +kernel
theorem dX3_changeUnlessRejected_46 : decode cX3_changeUnlessRejected 46 = .ok (.athrow, 1) := by decide +kernel
theorem dX3_changeUnlessRejected_47 : decode cX3_changeUnlessRejected 47 = .ok (.aload_n 0, 1) := by decide +kernel
theorem dX3_changeUnlessRejected_48 : decode cX3_changeUnlessRejected 48 = .ok (.getfield 25, 3) := by decide +kernel
theorem dX3_changeUnlessRejected_51 : decode cX3_changeUnlessRejected 51 = .ok (.aload_n 0, 1) := by decide +kernel
theorem dX3_changeUnlessRejected_52 : decode cX3_changeUnlessRejected 52 = .ok (.getfield 10, 3) := by decide +kernel
theorem dX3_changeUnlessRejected_55 : decode cX3_changeUnlessRejected 55 = .ok (.invokevirtual 75, 3) := by decide +kernel
theorem dX3_changeUnlessRejected_58 : decode cX3_changeUnlessRejected 58 = .ok (.aload_n 0, 1) := by decide +kernel
theorem dX3_changeUnlessRejected_59 : decode cX3_changeUnlessRejected 59 = .ok (.getfield 10, 3) := by decide +kernel
theorem dX3_changeUnlessRejected_62 : decode cX3_changeUnlessRejected 62 = .ok (.iload_n 1, 1) := by decide +kernel
theorem dX3_changeUnlessRejected_63 : decode cX3_changeUnlessRejected 63 = .ok (.iload_n 2, 1) := by decide +kernel
theorem dX3_changeUnlessRejected_64 : decode cX3_changeUnlessRejected 64 = .ok (.iload_n 3, 1) := by decide +kernel
theorem dX3_changeUnlessRejected_65 : decode cX3_changeUnlessRejected 65 = .ok (.invokevirtual 79, 3) := by decide +kernel
theorem dX3_changeUnlessRejected_68 : decode cX3_changeUnlessRejected 68 = .ok (.ireturn, 1) := by decide +kernel
theorem dX3_addRibbon_0 : decode cX3_addRibbon 0 = .ok (.aload_n 0, 1) := by decide +kernel
theorem dX3_addRibbon_1 : decode cX3_addRibbon 1 = .ok (.iload_n 1, 1) := by decide +kernel
theorem dX3_addRibbon_2 : decode cX3_addRibbon 2 = .ok (.invokevirtual 60, 3) := by decide +kernel
theorem dX3_addRibbon_5 : decode cX3_addRibbon 5 = .ok (.aload_n 0, 1) := by decide +kernel
theorem dX3_addRibbon_6 : decode cX3_addRibbon 6 = .ok (.iload_n 2, 1) := by decide +kernel
theorem dX3_addRibbon_7 : decode cX3_addRibbon 7 = .ok (.invokevirtual 64, 3) := by decide +kernel
theorem dX3_addRibbon_10 : decode cX3_addRibbon 10 = .ok (.aload_n 0, 1) := by decide +kernel
theorem dX3_addRibbon_11 : decode cX3_addRibbon 11 = .ok (.bipush 82, 2) := by decide +kernel
theorem dX3_addRibbon_13 : decode cX3_addRibbon 13 = .ok (.iload_n 1, 1) := by decide +kernel
theorem dX3_addRibbon_14 : decode cX3_addRibbon 14 = .ok (.iload_n 2, 1) := by decide +kernel
theorem dX3_addRibbon_15 : decode cX3_addRibbon 15 = .ok (.invokevirtual 67, 3) := by decide +kernel
theorem dX3_addRibbon_18 : decode cX3_addRibbon 18 = .ok (.ireturn, 1) := by decide +kernel
theorem dX3_addDogEar_0 : decode cX3_addDogEar 0 = .ok (.aload_n 0, 1) := by decide +kernel
theorem dX3_addDogEar_1 : decode cX3_addDogEar 1 = .ok (.iload_n 1, 1) := by decide +kernel
theorem dX3_addDogEar_2 : decode cX3_addDogEar 2 = .ok (.invokevirtual 60, 3) := by decide +kernel
theorem dX3_addDogEar_5 : decode cX3_addDogEar 5 = .ok (.aload_n 0, 1) := by decide +kernel
theorem dX3_addDogEar_6 : decode cX3_addDogEar 6 = .ok (.iload_n 2, 1) := by decide +kernel
theorem dX3_addDogEar_7 : decode cX3_addDogEar 7 = .ok (.invokevirtual 64, 3) := by decide +kernel
theorem dX3_addDogEar_10 : decode cX3_addDogEar 10 = .ok (.aload_n 0, 1) := by decide +kernel
theorem dX3_addDogEar_11 : decode cX3_addDogEar 11 = .ok (.bipush 69, 2) := by decide +kernel
theorem dX3_addDogEar_13 : decode cX3_addDogEar 13 = .ok (.iload_n 1, 1) := by decide +kernel
theorem dX3_addDogEar_14 : decode cX3_addDogEar 14 = .ok (.iload_n 2, 1) := by decide +kernel
theorem dX3_addDogEar_15 : decode cX3_addDogEar 15 = .ok (.invokevirtual 67, 3) := by decide +kernel
theorem dX3_addDogEar_18 : decode cX3_addDogEar 18 = .ok (.ireturn, 1) := by decide +kernel
theorem dX3_requireMark_0 : decode cX3_requireMark 0 = .ok (.aload_n 0, 1) := by decide +kernel
theorem dX3_requireMark_1 : decode cX3_requireMark 1 = .ok (.getfield 10, 3) := by decide +kernel
theorem dX3_requireMark_4 : decode cX3_requireMark 4 = .ok (.iload_n 1, 1) := by decide +kernel
theorem dX3_requireMark_5 : decode cX3_requireMark 5 = .ok (.invokevirtual 350, 3) := by decide +kernel
theorem dX3_requireMark_8 : decode cX3_requireMark 8 = .ok (.istore_n 2, 1) := by decide +kernel
theorem dX3_requireMark_9 : decode cX3_requireMark 9 = .ok (.iload_n 2, 1) := by decide +kernel
theorem dX3_requireMark_10 : decode cX3_requireMark 10 = .ok (.iconst (-1), 1) := by decide +kernel
theorem dX3_requireMark_11 : decode cX3_requireMark 11 = .ok (.if_icmp .ne 14, 3) := by decide +kernel
theorem dX3_requireMark_14 : decode cX3_requireMark 14 = .ok (.new 106, 3) := by decide +kernel
theorem dX3_requireMark_17 : decode cX3_requireMark 17 = .ok (.dup, 1) := by decide +kernel
theorem dX3_requireMark_18 : decode cX3_requireMark 18 = .ok (.ldc_w 353, 3) := by decide +kernel
theorem dX3_requireMark_21 : decode cX3_requireMark 21 = .ok (.invokespecial 110, 3) := by decide +kernel
theorem dX3_requireMark_24 : decode cX3_requireMark 24 = .ok (.athrow, 1) := by decide +kernel
theorem dX3_requireMark_25 : decode cX3_requireMark 25 = .ok (.iload_n 2, 1) := by decide +kernel
theorem dX3_requireMark_26 : decode cX3_requireMark 26 = .ok (.ireturn, 1) := by decide +kernel
theorem dX3_removeMark_0 : decode cX3_removeMark 0 = .ok (.aload_n 0, 1) := by decide +kernel
theorem dX3_removeMark_1 : decode cX3_removeMark 1 = .ok (.iload_n 1, 1) := by decide +kernel
theorem dX3_removeMark_2 : decode cX3_removeMark 2 = .ok (.invokevirtual 71, 3) := by decide +kernel
theorem dX3_removeMark_5 : decode cX3_removeMark 5 = .ok (.pop, 1) := by decide +kernel
theorem dX3_removeMark_6 : decode cX3_removeMark 6 = .ok (.aload_n 0, 1) := by decide +kernel
theorem dX3_removeMark_7 : decode cX3_removeMark 7 = .ok (.getfield 25, 3) := by decide +kernel
theorem dX3_removeMark_10 : decode cX3_removeMark 10 = .ok (.aload_n 0, 1) := by decide +kernel
theorem dX3_removeMark_11 : decode cX3_removeMark 11 = .ok (.getfield 10, 3) := by decide +kernel
theorem dX3_removeMark_14 : decode cX3_removeMark 14 = .ok (.invokevirtual 75, 3) := by decide +kernel
theorem dX3_removeMark_17 : decode cX3_removeMark 17 = .ok (.aload_n 0, 1) := by decide +kernel
theorem dX3_removeMark_18 : decode cX3_removeMark 18 = .ok (.getfield 10, 3) := by decide +kernel
theorem dX3_removeMark_21 : decode cX3_removeMark 21 = .ok (.bipush 88, 2) := by decide +kernel
theorem dX3_removeMark_23 : decode cX3_removeMark 23 = .ok (.iload_n 1, 1) := by decide +kernel
theorem dX3_removeMark_24 : decode cX3_removeMark 24 = .ok (.iconst 0, 1) := by decide +kernel
theorem dX3_removeMark_25 : decode cX3_removeMark 25 = .ok (.invokevirtual 79, 3) := by decide +kernel
theorem dX3_removeMark_28 : decode cX3_removeMark 28 = .ok (.ireturn, 1) := by decide +kernel
theorem dX3_moveRibbon_0 : decode cX3_moveRibbon 0 = .ok (.aload_n 0, 1) := by decide +kernel
theorem dX3_moveRibbon_1 : decode cX3_moveRibbon 1 = .ok (.iload_n 1, 1) := by decide +kernel
theorem dX3_moveRibbon_2 : decode cX3_moveRibbon 2 = .ok (.invokevirtual 71, 3) := by decide +kernel
theorem dX3_moveRibbon_5 : decode cX3_moveRibbon 5 = .ok (.pop, 1) := by decide +kernel
theorem dX3_moveRibbon_6 : decode cX3_moveRibbon 6 = .ok (.aload_n 0, 1) := by decide +kernel
theorem dX3_moveRibbon_7 : decode cX3_moveRibbon 7 = .ok (.iload_n 2, 1) := by decide +kernel
theorem dX3_moveRibbon_8 : decode cX3_moveRibbon 8 = .ok (.invokevirtual 60, 3) := by decide +kernel
theorem dX3_moveRibbon_11 : decode cX3_moveRibbon 11 = .ok (.aload_n 0, 1) := by decide +kernel
theorem dX3_moveRibbon_12 : decode cX3_moveRibbon 12 = .ok (.bipush 77, 2) := by decide +kernel
theorem dX3_moveRibbon_14 : decode cX3_moveRibbon 14 = .ok (.iload_n 1, 1) := by decide +kernel
theorem dX3_moveRibbon_15 : decode cX3_moveRibbon 15 = .ok (.iload_n 2, 1) := by decide +kernel
theorem dX3_moveRibbon_16 : decode cX3_moveRibbon 16 = .ok (.invokevirtual 67, 3) := by decide +kernel
theorem dX3_moveRibbon_19 : decode cX3_moveRibbon 19 = .ok (.ireturn, 1) := by decide +kernel
theorem dX3_swapSeats_0 : decode cX3_swapSeats 0 = .ok (.aload_n 0, 1) := by decide +kernel
theorem dX3_swapSeats_1 : decode cX3_swapSeats 1 = .ok (.iload_n 1, 1) := by decide +kernel
theorem dX3_swapSeats_2 : decode cX3_swapSeats 2 = .ok (.invokevirtual 71, 3) := by decide +kernel
theorem dX3_swapSeats_5 : decode cX3_swapSeats 5 = .ok (.pop, 1) := by decide +kernel
theorem dX3_swapSeats_6 : decode cX3_swapSeats 6 = .ok (.aload_n 0, 1) := by decide +kernel
theorem dX3_swapSeats_7 : decode cX3_swapSeats 7 = .ok (.iload_n 2, 1) := by decide +kernel
theorem dX3_swapSeats_8 : decode cX3_swapSeats 8 = .ok (.invokevirtual 71, 3) := by decide +kernel
theorem dX3_swapSeats_11 : decode cX3_swapSeats 11 = .ok (.pop, 1) := by decide +kernel
theorem dX3_swapSeats_12 : decode cX3_swapSeats 12 = .ok (.aload_n 0, 1) := by decide +kernel
theorem dX3_swapSeats_13 : decode cX3_swapSeats 13 = .ok (.bipush 83, 2) := by decide +kernel
theorem dX3_swapSeats_15 : decode cX3_swapSeats 15 = .ok (.iload_n 1, 1) := by decide +kernel
theorem dX3_swapSeats_16 : decode cX3_swapSeats 16 = .ok (.iload_n 2, 1) := by decide +kernel
theorem dX3_swapSeats_17 : decode cX3_swapSeats 17 = .ok (.invokevirtual 67, 3) := by decide +kernel
theorem dX3_swapSeats_20 : decode cX3_swapSeats 20 = .ok (.ireturn, 1) := by decide +kernel
theorem dX3_isRibbon_0 : decode cX3_isRibbon 0 = .ok (.aload_n 0, 1) := by decide +kernel
theorem dX3_isRibbon_1 : decode cX3_isRibbon 1 = .ok (.getfield 10, 3) := by decide +kernel
theorem dX3_isRibbon_4 : decode cX3_isRibbon 4 = .ok (.aload_n 0, 1) := by decide +kernel
theorem dX3_isRibbon_5 : decode cX3_isRibbon 5 = .ok (.iload_n 1, 1) := by decide +kernel
theorem dX3_isRibbon_6 : decode cX3_isRibbon 6 = .ok (.invokevirtual 71, 3) := by decide +kernel
theorem dX3_isRibbon_9 : decode cX3_isRibbon 9 = .ok (.invokevirtual 82, 3) := by decide +kernel
theorem dX3_isRibbon_12 : decode cX3_isRibbon 12 = .ok (.ireturn, 1) := by decide +kernel
theorem dX3_pageOf_0 : decode cX3_pageOf 0 = .ok (.aload_n 0, 1) := by decide +kernel
theorem dX3_pageOf_1 : decode cX3_pageOf 1 = .ok (.getfield 10, 3) := by decide +kernel
theorem dX3_pageOf_4 : decode cX3_pageOf 4 = .ok (.getfield 86, 3) := by decide +kernel
theorem dX3_pageOf_7 : decode cX3_pageOf 7 = .ok (.aload_n 0, 1) := by decide +kernel
theorem dX3_pageOf_8 : decode cX3_pageOf 8 = .ok (.iload_n 1, 1) := by decide +kernel
theorem dX3_pageOf_9 : decode cX3_pageOf 9 = .ok (.invokevirtual 71, 3) := by decide +kernel
theorem dX3_pageOf_12 : decode cX3_pageOf 12 = .ok (.iaload, 1) := by decide +kernel
theorem dX3_pageOf_13 : decode cX3_pageOf 13 = .ok (.ireturn, 1) := by decide +kernel
theorem dX3_weightOf_0 : decode cX3_weightOf 0 = .ok (.aload_n 0, 1) := by decide +kernel
theorem dX3_weightOf_1 : decode cX3_weightOf 1 = .ok (.getfield 10, 3) := by decide +kernel
theorem dX3_weightOf_4 : decode cX3_weightOf 4 = .ok (.getfield 90, 3) := by decide +kernel
theorem dX3_weightOf_7 : decode cX3_weightOf 7 = .ok (.aload_n 0, 1) := by decide +kernel
theorem dX3_weightOf_8 : decode cX3_weightOf 8 = .ok (.iload_n 1, 1) := by decide +kernel
theorem dX3_weightOf_9 : decode cX3_weightOf 9 = .ok (.invokevirtual 71, 3) := by decide +kernel
theorem dX3_weightOf_12 : decode cX3_weightOf 12 = .ok (.iaload, 1) := by decide +kernel
theorem dX3_weightOf_13 : decode cX3_weightOf 13 = .ok (.ireturn, 1) := by decide +kernel
theorem dX3_wearOf_0 : decode cX3_wearOf 0 = .ok (.aload_n 0, 1) := by decide +kernel
theorem dX3_wearOf_1 : decode cX3_wearOf 1 = .ok (.getfield 10, 3) := by decide +kernel
theorem dX3_wearOf_4 : decode cX3_wearOf 4 = .ok (.getfield 93, 3) := by decide +kernel
theorem dX3_wearOf_7 : decode cX3_wearOf 7 = .ok (.aload_n 0, 1) := by decide +kernel
theorem dX3_wearOf_8 : decode cX3_wearOf 8 = .ok (.iload_n 1, 1) := by decide +kernel
theorem dX3_wearOf_9 : decode cX3_wearOf 9 = .ok (.invokevirtual 71, 3) := by decide +kernel
theorem dX3_wearOf_12 : decode cX3_wearOf 12 = .ok (.iaload, 1) := by decide +kernel
theorem dX3_wearOf_13 : decode cX3_wearOf 13 = .ok (.ireturn, 1) := by decide +kernel
theorem dX3_seatOf_0 : decode cX3_seatOf 0 = .ok (.aload_n 0, 1) := by decide +kernel
theorem dX3_seatOf_1 : decode cX3_seatOf 1 = .ok (.iload_n 1, 1) := by decide +kernel
theorem dX3_seatOf_2 : decode cX3_seatOf 2 = .ok (.invokevirtual 71, 3) := by decide +kernel
theorem dX3_seatOf_5 : decode cX3_seatOf 5 = .ok (.istore_n 2, 1) := by decide +kernel
theorem dX3_seatOf_6 : decode cX3_seatOf 6 = .ok (.aload_n 0, 1) := by decide +kernel
theorem dX3_seatOf_7 : decode cX3_seatOf 7 = .ok (.getfield 10, 3) := by decide +kernel
theorem dX3_seatOf_10 : decode cX3_seatOf 10 = .ok (.iload_n 2, 1) := by decide +kernel
theorem dX3_seatOf_11 : decode cX3_seatOf 11 = .ok (.invokevirtual 82, 3) := by decide +kernel
theorem dX3_seatOf_14 : decode cX3_seatOf 14 = .ok (.ifCond .ne 13, 3) := by decide +kernel
theorem dX3_seatOf_17 : decode cX3_seatOf 17 = .ok (.new 96, 3) := by decide +kernel
theorem dX3_seatOf_20 : decode cX3_seatOf 20 = .ok (.dup, 1) := by decide +kernel
theorem dX3_seatOf_21 : decode cX3_seatOf 21 = .ok (.ldc 98, 2) := by decide +kernel
theorem dX3_seatOf_23 : decode cX3_seatOf 23 = .ok (.invokespecial 100, 3) := by decide +kernel
theorem dX3_seatOf_26 : decode cX3_seatOf 26 = .ok (.athrow, 1) := by decide +kernel
theorem dX3_seatOf_27 : decode cX3_seatOf 27 = .ok (.aload_n 0, 1) := by decide +kernel
theorem dX3_seatOf_28 : decode cX3_seatOf 28 = .ok (.getfield 10, 3) := by decide +kernel
theorem dX3_seatOf_31 : decode cX3_seatOf 31 = .ok (.getfield 103, 3) := by decide +kernel
theorem dX3_seatOf_34 : decode cX3_seatOf 34 = .ok (.iload_n 2, 1) := by decide +kernel
theorem dX3_seatOf_35 : decode cX3_seatOf 35 = .ok (.iaload, 1) := by decide +kernel
theorem dX3_seatOf_36 : decode cX3_seatOf 36 = .ok (.ireturn, 1) := by decide +kernel
theorem dX3_idOfFound_0 : decode cX3_idOfFound 0 = .ok (.iload_n 1, 1) := by decide +kernel
theorem dX3_idOfFound_1 : decode cX3_idOfFound 1 = .ok (.iconst (-1), 1) := by decide +kernel
theorem dX3_idOfFound_2 : decode cX3_idOfFound 2 = .ok (.if_icmp .ne 14, 3) := by decide +kernel
theorem dX3_idOfFound_5 : decode cX3_idOfFound 5 = .ok (.new 96, 3) := by decide +kernel
theorem dX3_idOfFound_8 : decode cX3_idOfFound 8 = .ok (.dup, 1) := by decide +kernel
theorem dX3_idOfFound_9 : decode cX3_idOfFound 9 = .ok (.ldc_w 357, 3) := by decide +kernel
theorem dX3_idOfFound_12 : decode cX3_idOfFound 12 = .ok (.invokespecial 100, 3) := by decide +kernel
theorem dX3_idOfFound_15 : decode cX3_idOfFound 15 = .ok (.athrow, 1) := by decide +kernel
theorem dX3_idOfFound_16 : decode cX3_idOfFound 16 = .ok (.aload_n 0, 1) := by decide +kernel
theorem dX3_idOfFound_17 : decode cX3_idOfFound 17 = .ok (.getfield 10, 3) := by decide +kernel
theorem dX3_idOfFound_20 : decode cX3_idOfFound 20 = .ok (.getfield 359, 3) := by decide +kernel
theorem dX3_idOfFound_23 : decode cX3_idOfFound 23 = .ok (.iload_n 1, 1) := by decide +kernel
theorem dX3_idOfFound_24 : decode cX3_idOfFound 24 = .ok (.iaload, 1) := by decide +kernel
theorem dX3_idOfFound_25 : decode cX3_idOfFound 25 = .ok (.ireturn, 1) := by decide +kernel
theorem dX3_ribbonIn_0 : decode cX3_ribbonIn 0 = .ok (.iload_n 1, 1) := by decide +kernel
theorem dX3_ribbonIn_1 : decode cX3_ribbonIn 1 = .ok (.ifCond .lt 8, 3) := by decide +kernel
theorem dX3_ribbonIn_4 : decode cX3_ribbonIn 4 = .ok (.iload_n 1, 1) := by decide +kernel
theorem dX3_ribbonIn_5 : decode cX3_ribbonIn 5 = .ok (.iconst 5, 1) := by decide +kernel
theorem dX3_ribbonIn_6 : decode cX3_ribbonIn 6 = .ok (.if_icmp .lt 13, 3) := by decide +kernel
theorem dX3_ribbonIn_9 : decode cX3_ribbonIn 9 = .ok (.new 106, 3) := by decide +kernel
theorem dX3_ribbonIn_12 : decode cX3_ribbonIn 12 = .ok (.dup, 1) := by decide +kernel
theorem dX3_ribbonIn_13 : decode cX3_ribbonIn 13 = .ok (.ldc 108, 2) := by decide +kernel
theorem dX3_ribbonIn_15 : decode cX3_ribbonIn 15 = .ok (.invokespecial 110, 3) := by decide +kernel
theorem dX3_ribbonIn_18 : decode cX3_ribbonIn 18 = .ok (.athrow, 1) := by decide +kernel
theorem dX3_ribbonIn_19 : decode cX3_ribbonIn 19 = .ok (.aload_n 0, 1) := by decide +kernel
theorem dX3_ribbonIn_20 : decode cX3_ribbonIn 20 = .ok (.aload_n 0, 1) := by decide +kernel
theorem dX3_ribbonIn_21 : decode cX3_ribbonIn 21 = .ok (.getfield 10, 3) := by decide +kernel
theorem dX3_ribbonIn_24 : decode cX3_ribbonIn 24 = .ok (.iload_n 1, 1) := by decide +kernel
theorem dX3_ribbonIn_25 : decode cX3_ribbonIn 25 = .ok (.invokevirtual 111, 3) := by decide +kernel
theorem dX3_ribbonIn_28 : decode cX3_ribbonIn 28 = .ok (.invokevirtual 114, 3) := by decide +kernel
theorem dX3_ribbonIn_31 : decode cX3_ribbonIn 31 = .ok (.ireturn, 1) := by decide +kernel
theorem dX3_isHeld_0 : decode cX3_isHeld 0 = .ok (.aload_n 0, 1) := by decide +kernel
theorem dX3_isHeld_1 : decode cX3_isHeld 1 = .ok (.iload_n 1, 1) := by decide +kernel
theorem dX3_isHeld_2 : decode cX3_isHeld 2 = .ok (.invokevirtual 60, 3) := by decide +kernel
theorem dX3_isHeld_5 : decode cX3_isHeld 5 = .ok (.aload_n 0, 1) := by decide +kernel
theorem dX3_isHeld_6 : decode cX3_isHeld 6 = .ok (.getfield 10, 3) := by decide +kernel
theorem dX3_isHeld_9 : decode cX3_isHeld 9 = .ok (.iload_n 1, 1) := by decide +kernel
theorem dX3_isHeld_10 : decode cX3_isHeld 10 = .ok (.invokevirtual 117, 3) := by decide +kernel
theorem dX3_isHeld_13 : decode cX3_isHeld 13 = .ok (.iconst (-1), 1) := by decide +kernel
theorem dX3_isHeld_14 : decode cX3_isHeld 14 = .ok (.if_icmp .eq 7, 3) := by decide +kernel
theorem dX3_isHeld_17 : decode cX3_isHeld 17 = .ok (.iconst 1, 1) := by decide +kernel
theorem dX3_isHeld_18 : decode cX3_isHeld 18 = .ok (.goto 4, 3) := by decide +kernel
theorem dX3_isHeld_21 : decode cX3_isHeld 21 = .ok (.iconst 0, 1) := by decide +kernel
theorem dX3_isHeld_22 : decode cX3_isHeld 22 = .ok (.ireturn, 1) := by decide +kernel
theorem dX3_markOn_0 : decode cX3_markOn 0 = .ok (.aload_n 0, 1) := by decide +kernel
theorem dX3_markOn_1 : decode cX3_markOn 1 = .ok (.iload_n 1, 1) := by decide +kernel
theorem dX3_markOn_2 : decode cX3_markOn 2 = .ok (.invokevirtual 60, 3) := by decide +kernel
theorem dX3_markOn_5 : decode cX3_markOn 5 = .ok (.aload_n 0, 1) := by decide +kernel
theorem dX3_markOn_6 : decode cX3_markOn 6 = .ok (.aload_n 0, 1) := by decide +kernel
theorem dX3_markOn_7 : decode cX3_markOn 7 = .ok (.getfield 10, 3) := by decide +kernel
theorem dX3_markOn_10 : decode cX3_markOn 10 = .ok (.iload_n 1, 1) := by decide +kernel
theorem dX3_markOn_11 : decode cX3_markOn 11 = .ok (.invokevirtual 117, 3) := by decide +kernel
theorem dX3_markOn_14 : decode cX3_markOn 14 = .ok (.invokevirtual 114, 3) := by decide +kernel
theorem dX3_markOn_17 : decode cX3_markOn 17 = .ok (.ireturn, 1) := by decide +kernel
theorem dX3_nextMark_0 : decode cX3_nextMark 0 = .ok (.aload_n 0, 1) := by decide +kernel
theorem dX3_nextMark_1 : decode cX3_nextMark 1 = .ok (.iload_n 1, 1) := by decide +kernel
theorem dX3_nextMark_2 : decode cX3_nextMark 2 = .ok (.invokevirtual 60, 3) := by decide +kernel
theorem dX3_nextMark_5 : decode cX3_nextMark 5 = .ok (.aload_n 0, 1) := by decide +kernel
theorem dX3_nextMark_6 : decode cX3_nextMark 6 = .ok (.aload_n 0, 1) := by decide +kernel
theorem dX3_nextMark_7 : decode cX3_nextMark 7 = .ok (.getfield 10, 3) := by decide +kernel
theorem dX3_nextMark_10 : decode cX3_nextMark 10 = .ok (.iload_n 1, 1) := by decide +kernel
theorem dX3_nextMark_11 : decode cX3_nextMark 11 = .ok (.invokevirtual 120, 3) := by decide +kernel
theorem dX3_nextMark_14 : decode cX3_nextMark 14 = .ok (.invokevirtual 114, 3) := by decide +kernel
theorem dX3_nextMark_17 : decode cX3_nextMark 17 = .ok (.ireturn, 1) := by decide +kernel
theorem dX3_previousMark_0 : decode cX3_previousMark 0 = .ok (.aload_n 0, 1) := by decide +kernel
theorem dX3_previousMark_1 : decode cX3_previousMark 1 = .ok (.iload_n 1, 1) := by decide +kernel
theorem dX3_previousMark_2 : decode cX3_previousMark 2 = .ok (.invokevirtual 60, 3) := by decide +kernel
theorem dX3_previousMark_5 : decode cX3_previousMark 5 = .ok (.aload_n 0, 1) := by decide +kernel
theorem dX3_previousMark_6 : decode cX3_previousMark 6 = .ok (.aload_n 0, 1) := by decide +kernel
theorem dX3_previousMark_7 : decode cX3_previousMark 7 = .ok (.getfield 10, 3) := by decide +kernel
theorem dX3_previousMark_10 : decode cX3_previousMark 10 = .ok (.iload_n 1, 1) := by decide +kernel
theorem dX3_previousMark_11 : decode cX3_previousMark 11 = .ok (.invokevirtual 123, 3) := by decide +kernel
theorem dX3_previousMark_14 : decode cX3_previousMark 14 = .ok (.invokevirtual 114, 3) := by decide +kernel
theorem dX3_previousMark_17 : decode cX3_previousMark 17 = .ok (.ireturn, 1) := by decide +kernel
theorem dX3_nearestMark_0 : decode cX3_nearestMark 0 = .ok (.aload_n 0, 1) := by decide +kernel
theorem dX3_nearestMark_1 : decode cX3_nearestMark 1 = .ok (.iload_n 1, 1) := by decide +kernel
theorem dX3_nearestMark_2 : decode cX3_nearestMark 2 = .ok (.invokevirtual 60, 3) := by decide +kernel
theorem dX3_nearestMark_5 : decode cX3_nearestMark 5 = .ok (.aload_n 0, 1) := by decide +kernel
theorem dX3_nearestMark_6 : decode cX3_nearestMark 6 = .ok (.aload_n 0, 1) := by decide +kernel
theorem dX3_nearestMark_7 : decode cX3_nearestMark 7 = .ok (.getfield 10, 3) := by decide +kernel
theorem dX3_nearestMark_10 : decode cX3_nearestMark 10 = .ok (.iload_n 1, 1) := by decide +kernel
theorem dX3_nearestMark_11 : decode cX3_nearestMark 11 = .ok (.invokevirtual 126, 3) := by decide +kernel
theorem dX3_nearestMark_14 : decode cX3_nearestMark 14 = .ok (.invokevirtual 114, 3) := by decide +kernel
theorem dX3_nearestMark_17 : decode cX3_nearestMark 17 = .ok (.ireturn, 1) := by decide +kernel
theorem dX3_chapterOf_0 : decode cX3_chapterOf 0 = .ok (.aload_n 0, 1) := by decide +kernel
theorem dX3_chapterOf_1 : decode cX3_chapterOf 1 = .ok (.iload_n 1, 1) := by decide +kernel
theorem dX3_chapterOf_2 : decode cX3_chapterOf 2 = .ok (.invokevirtual 60, 3) := by decide +kernel
theorem dX3_chapterOf_5 : decode cX3_chapterOf 5 = .ok (.aload_n 0, 1) := by decide +kernel
theorem dX3_chapterOf_6 : decode cX3_chapterOf 6 = .ok (.getfield 10, 3) := by decide +kernel
theorem dX3_chapterOf_9 : decode cX3_chapterOf 9 = .ok (.iload_n 1, 1) := by decide +kernel
theorem dX3_chapterOf_10 : decode cX3_chapterOf 10 = .ok (.invokevirtual 129, 3) := by decide +kernel
theorem dX3_chapterOf_13 : decode cX3_chapterOf 13 = .ok (.ireturn, 1) := by decide +kernel
theorem dX3_startChapter_0 : decode cX3_startChapter 0 = .ok (.aload_n 0, 1) := by decide +kernel
theorem dX3_startChapter_1 : decode cX3_startChapter 1 = .ok (.iload_n 1, 1) := by decide +kernel
theorem dX3_startChapter_2 : decode cX3_startChapter 2 = .ok (.invokevirtual 60, 3) := by decide +kernel
theorem dX3_startChapter_5 : decode cX3_startChapter 5 = .ok (.aload_n 0, 1) := by decide +kernel
theorem dX3_startChapter_6 : decode cX3_startChapter 6 = .ok (.bipush 67, 2) := by decide +kernel
theorem dX3_startChapter_8 : decode cX3_startChapter 8 = .ok (.iload_n 1, 1) := by decide +kernel
theorem dX3_startChapter_9 : decode cX3_startChapter 9 = .ok (.iconst 0, 1) := by decide +kernel
theorem dX3_startChapter_10 : decode cX3_startChapter 10 = .ok (.invokevirtual 67, 3) := by decide +kernel
theorem dX3_startChapter_13 : decode cX3_startChapter 13 = .ok (.ireturn, 1) := by decide +kernel
theorem dX3_requireChapter_0 : decode cX3_requireChapter 0 = .ok (.aload_n 0, 1) := by decide +kernel
theorem dX3_requireChapter_1 : decode cX3_requireChapter 1 = .ok (.getfield 10, 3) := by decide +kernel
theorem dX3_requireChapter_4 : decode cX3_requireChapter 4 = .ok (.iload_n 1, 1) := by decide +kernel
theorem dX3_requireChapter_5 : decode cX3_requireChapter 5 = .ok (.invokevirtual 345, 3) := by decide +kernel
theorem dX3_requireChapter_8 : decode cX3_requireChapter 8 = .ok (.ifCond .ne 14, 3) := by decide +kernel
theorem dX3_requireChapter_11 : decode cX3_requireChapter 11 = .ok (.new 106, 3) := by decide +kernel
theorem dX3_requireChapter_14 : decode cX3_requireChapter 14 = .ok (.dup, 1) := by decide +kernel
theorem dX3_requireChapter_15 : decode cX3_requireChapter 15 = .ok (.ldc_w 348, 3) := by decide +kernel
theorem dX3_requireChapter_18 : decode cX3_requireChapter 18 = .ok (.invokespecial 110, 3) := by decide +kernel
theorem dX3_requireChapter_21 : decode cX3_requireChapter 21 = .ok (.athrow, 1) := by decide +kernel
theorem dX3_requireChapter_22 : decode cX3_requireChapter 22 = .ok (.return_, 1) := by decide +kernel
theorem dX3_voteToDissolve_0 : decode cX3_voteToDissolve 0 = .ok (.aload_n 0, 1) := by decide +kernel
theorem dX3_voteToDissolve_1 : decode cX3_voteToDissolve 1 = .ok (.iload_n 1, 1) := by decide +kernel
theorem dX3_voteToDissolve_2 : decode cX3_voteToDissolve 2 = .ok (.invokevirtual 132, 3) := by decide +kernel
theorem dX3_voteToDissolve_5 : decode cX3_voteToDissolve 5 = .ok (.aload_n 0, 1) := by decide +kernel
theorem dX3_voteToDissolve_6 : decode cX3_voteToDissolve 6 = .ok (.bipush 86, 2) := by decide +kernel
theorem dX3_voteToDissolve_8 : decode cX3_voteToDissolve 8 = .ok (.iload_n 1, 1) := by decide +kernel
theorem dX3_voteToDissolve_9 : decode cX3_voteToDissolve 9 = .ok (.iconst 0, 1) := by decide +kernel
theorem dX3_voteToDissolve_10 : decode cX3_voteToDissolve 10 = .ok (.invokevirtual 67, 3) := by decide +kernel
theorem dX3_voteToDissolve_13 : decode cX3_voteToDissolve 13 = .ok (.iconst 1, 1) := by decide +kernel
theorem dX3_voteToDissolve_14 : decode cX3_voteToDissolve 14 = .ok (.if_icmp .ne 7, 3) := by decide +kernel
theorem dX3_voteToDissolve_17 : decode cX3_voteToDissolve 17 = .ok (.iconst 1, 1) := by decide +kernel
theorem dX3_voteToDissolve_18 : decode cX3_voteToDissolve 18 = .ok (.goto 4, 3) := by decide +kernel
theorem dX3_voteToDissolve_21 : decode cX3_voteToDissolve 21 = .ok (.iconst 0, 1) := by decide +kernel
theorem dX3_voteToDissolve_22 : decode cX3_voteToDissolve 22 = .ok (.ireturn, 1) := by decide +kernel
theorem dX3_firstPage_0 : decode cX3_firstPage 0 = .ok (.aload_n 0, 1) := by decide +kernel
theorem dX3_firstPage_1 : decode cX3_firstPage 1 = .ok (.iload_n 1, 1) := by decide +kernel
theorem dX3_firstPage_2 : decode cX3_firstPage 2 = .ok (.invokevirtual 132, 3) := by decide +kernel
theorem dX3_firstPage_5 : decode cX3_firstPage 5 = .ok (.aload_n 0, 1) := by decide +kernel
theorem dX3_firstPage_6 : decode cX3_firstPage 6 = .ok (.getfield 10, 3) := by decide +kernel
theorem dX3_firstPage_9 : decode cX3_firstPage 9 = .ok (.getfield 135, 3) := by decide +kernel
theorem dX3_firstPage_12 : decode cX3_firstPage 12 = .ok (.iload_n 1, 1) := by decide +kernel
theorem dX3_firstPage_13 : decode cX3_firstPage 13 = .ok (.iaload, 1) := by decide +kernel
theorem dX3_firstPage_14 : decode cX3_firstPage 14 = .ok (.ireturn, 1) := by decide +kernel
theorem dX3_lastPage_0 : decode cX3_lastPage 0 = .ok (.aload_n 0, 1) := by decide +kernel
theorem dX3_lastPage_1 : decode cX3_lastPage 1 = .ok (.iload_n 1, 1) := by decide +kernel
theorem dX3_lastPage_2 : decode cX3_lastPage 2 = .ok (.invokevirtual 132, 3) := by decide +kernel
theorem dX3_lastPage_5 : decode cX3_lastPage 5 = .ok (.aload_n 0, 1) := by decide +kernel
theorem dX3_lastPage_6 : decode cX3_lastPage 6 = .ok (.getfield 10, 3) := by decide +kernel
theorem dX3_lastPage_9 : decode cX3_lastPage 9 = .ok (.iload_n 1, 1) := by decide +kernel
theorem dX3_lastPage_10 : decode cX3_lastPage 10 = .ok (.invokevirtual 138, 3) := by decide +kernel
theorem dX3_lastPage_13 : decode cX3_lastPage 13 = .ok (.ireturn, 1) := by decide +kernel
theorem dX3_heldPages_0 : decode cX3_heldPages 0 = .ok (.aload_n 0, 1) := by decide +kernel
theorem dX3_heldPages_1 : decode cX3_heldPages 1 = .ok (.iload_n 1, 1) := by decide +kernel
theorem dX3_heldPages_2 : decode cX3_heldPages 2 = .ok (.invokevirtual 132, 3) := by decide +kernel
theorem dX3_heldPages_5 : decode cX3_heldPages 5 = .ok (.aload_n 0, 1) := by decide +kernel
theorem dX3_heldPages_6 : decode cX3_heldPages 6 = .ok (.getfield 10, 3) := by decide +kernel
theorem dX3_heldPages_9 : decode cX3_heldPages 9 = .ok (.iload_n 1, 1) := by decide +kernel
theorem dX3_heldPages_10 : decode cX3_heldPages 10 = .ok (.invokevirtual 141, 3) := by decide +kernel
theorem dX3_heldPages_13 : decode cX3_heldPages 13 = .ok (.ireturn, 1) := by decide +kernel
theorem dX3_heldPagesByMarks_0 : decode cX3_heldPagesByMarks 0 = .ok (.aload_n 0, 1) := by decide +kernel
theorem dX3_heldPagesByMarks_1 : decode cX3_heldPagesByMarks 1 = .ok (.iload_n 1, 1) := by decide +kernel
theorem dX3_heldPagesByMarks_2 : decode cX3_heldPagesByMarks 2 = .ok (.invokevirtual 132, 3) := by decide +kernel
theorem dX3_heldPagesByMarks_5 : decode cX3_heldPagesByMarks 5 = .ok (.aload_n 0, 1) := by decide +kernel
theorem dX3_heldPagesByMarks_6 : decode cX3_heldPagesByMarks 6 = .ok (.getfield 10, 3) := by decide +kernel
theorem dX3_heldPagesByMarks_9 : decode cX3_heldPagesByMarks 9 = .ok (.iload_n 1, 1) := by decide +kernel
theorem dX3_heldPagesByMarks_10 : decode cX3_heldPagesByMarks 10 = .ok (.invokevirtual 144, 3) := by decide +kernel
theorem dX3_heldPagesByMarks_13 : decode cX3_heldPagesByMarks 13 = .ok (.ireturn, 1) := by decide +kernel
theorem dX3_chapterWeight_0 : decode cX3_chapterWeight 0 = .ok (.aload_n 0, 1) := by decide +kernel
theorem dX3_chapterWeight_1 : decode cX3_chapterWeight 1 = .ok (.iload_n 1, 1) := by decide +kernel
theorem dX3_chapterWeight_2 : decode cX3_chapterWeight 2 = .ok (.invokevirtual 132, 3) := by decide +kernel
theorem dX3_chapterWeight_5 : decode cX3_chapterWeight 5 = .ok (.aload_n 0, 1) := by decide +kernel
theorem dX3_chapterWeight_6 : decode cX3_chapterWeight 6 = .ok (.getfield 10, 3) := by decide +kernel
theorem dX3_chapterWeight_9 : decode cX3_chapterWeight 9 = .ok (.iload_n 1, 1) := by decide +kernel
theorem dX3_chapterWeight_10 : decode cX3_chapterWeight 10 = .ok (.invokevirtual 147, 3) := by decide +kernel
theorem dX3_chapterWeight_13 : decode cX3_chapterWeight 13 = .ok (.ireturn, 1) := by decide +kernel
theorem dX3_weightInFavour_0 : decode cX3_weightInFavour 0 = .ok (.aload_n 0, 1) := by decide +kernel
theorem dX3_weightInFavour_1 : decode cX3_weightInFavour 1 = .ok (.iload_n 1, 1) := by decide +kernel
theorem dX3_weightInFavour_2 : decode cX3_weightInFavour 2 = .ok (.invokevirtual 132, 3) := by decide +kernel
theorem dX3_weightInFavour_5 : decode cX3_weightInFavour 5 = .ok (.aload_n 0, 1) := by decide +kernel
theorem dX3_weightInFavour_6 : decode cX3_weightInFavour 6 = .ok (.getfield 10, 3) := by decide +kernel
theorem dX3_weightInFavour_9 : decode cX3_weightInFavour 9 = .ok (.iload_n 1, 1) := by decide +kernel
theorem dX3_weightInFavour_10 : decode cX3_weightInFavour 10 = .ok (.invokevirtual 150, 3) := by decide +kernel
theorem dX3_weightInFavour_13 : decode cX3_weightInFavour 13 = .ok (.ireturn, 1) := by decide +kernel
theorem dX3_weightAgainst_0 : decode cX3_weightAgainst 0 = .ok (.aload_n 0, 1) := by decide +kernel
theorem dX3_weightAgainst_1 : decode cX3_weightAgainst 1 = .ok (.iload_n 1, 1) := by decide +kernel
theorem dX3_weightAgainst_2 : decode cX3_weightAgainst 2 = .ok (.invokevirtual 132, 3) := by decide +kernel
theorem dX3_weightAgainst_5 : decode cX3_weightAgainst 5 = .ok (.aload_n 0, 1) := by decide +kernel
theorem dX3_weightAgainst_6 : decode cX3_weightAgainst 6 = .ok (.getfield 10, 3) := by decide +kernel
theorem dX3_weightAgainst_9 : decode cX3_weightAgainst 9 = .ok (.iload_n 1, 1) := by decide +kernel
theorem dX3_weightAgainst_10 : decode cX3_weightAgainst 10 = .ok (.invokevirtual 153, 3) := by decide +kernel
theorem dX3_weightAgainst_13 : decode cX3_weightAgainst 13 = .ok (.ireturn, 1) := by decide +kernel
theorem dX3_weightAgainstByTotal_0 : decode cX3_weightAgainstByTotal 0 = .ok (.aload_n 0, 1) := by decide +kernel
theorem dX3_weightAgainstByTotal_1 : decode cX3_weightAgainstByTotal 1 = .ok (.iload_n 1, 1) := by decide +kernel
theorem dX3_weightAgainstByTotal_2 : decode cX3_weightAgainstByTotal 2 = .ok (.invokevirtual 132, 3) := by decide +kernel
theorem dX3_weightAgainstByTotal_5 : decode cX3_weightAgainstByTotal 5 = .ok (.aload_n 0, 1) := by decide +kernel
theorem dX3_weightAgainstByTotal_6 : decode cX3_weightAgainstByTotal 6 = .ok (.getfield 10, 3) := by decide +kernel
theorem dX3_weightAgainstByTotal_9 : decode cX3_weightAgainstByTotal 9 = .ok (.iload_n 1, 1) := by decide +kernel
theorem dX3_weightAgainstByTotal_10 : decode cX3_weightAgainstByTotal 10 = .ok (.invokevirtual 156, 3) := by decide +kernel
theorem dX3_weightAgainstByTotal_13 : decode cX3_weightAgainstByTotal 13 = .ok (.ireturn, 1) := by decide +kernel
theorem dX3_wouldDissolve_0 : decode cX3_wouldDissolve 0 = .ok (.aload_n 0, 1) := by decide +kernel
theorem dX3_wouldDissolve_1 : decode cX3_wouldDissolve 1 = .ok (.iload_n 1, 1) := by decide +kernel
theorem dX3_wouldDissolve_2 : decode cX3_wouldDissolve 2 = .ok (.invokevirtual 132, 3) := by decide +kernel
theorem dX3_wouldDissolve_5 : decode cX3_wouldDissolve 5 = .ok (.aload_n 0, 1) := by decide +kernel
theorem dX3_wouldDissolve_6 : decode cX3_wouldDissolve 6 = .ok (.getfield 10, 3) := by decide +kernel
theorem dX3_wouldDissolve_9 : decode cX3_wouldDissolve 9 = .ok (.iload_n 1, 1) := by decide +kernel
theorem dX3_wouldDissolve_10 : decode cX3_wouldDissolve 10 = .ok (.invokevirtual 159, 3) := by decide +kernel
theorem dX3_wouldDissolve_13 : decode cX3_wouldDissolve 13 = .ok (.ireturn, 1) := by decide +kernel
theorem dX3_heaviestChapter_0 : decode cX3_heaviestChapter 0 = .ok (.aload_n 0, 1) := by decide +kernel
theorem dX3_heaviestChapter_1 : decode cX3_heaviestChapter 1 = .ok (.getfield 10, 3) := by decide +kernel
theorem dX3_heaviestChapter_4 : decode cX3_heaviestChapter 4 = .ok (.invokevirtual 162, 3) := by decide +kernel
theorem dX3_heaviestChapter_7 : decode cX3_heaviestChapter 7 = .ok (.ireturn, 1) := by decide +kernel
theorem dX3_requireCount_0 : decode cX3_requireCount 0 = .ok (.aload_n 0, 1) := by decide +kernel
theorem dX3_requireCount_1 : decode cX3_requireCount 1 = .ok (.getfield 10, 3) := by decide +kernel
theorem dX3_requireCount_4 : decode cX3_requireCount 4 = .ok (.iload_n 1, 1) := by decide +kernel
theorem dX3_requireCount_5 : decode cX3_requireCount 5 = .ok (.invokevirtual 340, 3) := by decide +kernel
theorem dX3_requireCount_8 : decode cX3_requireCount 8 = .ok (.ifCond .ne 14, 3) := by decide +kernel
theorem dX3_requireCount_11 : decode cX3_requireCount 11 = .ok (.new 256, 3) := by decide +kernel
theorem dX3_requireCount_14 : decode cX3_requireCount 14 = .ok (.dup, 1) := by decide +kernel
theorem dX3_requireCount_15 : decode cX3_requireCount 15 = .ok (.ldc_w 343, 3) := by decide +kernel
theorem dX3_requireCount_18 : decode cX3_requireCount 18 = .ok (.invokespecial 260, 3) := by decide +kernel
theorem dX3_requireCount_21 : decode cX3_requireCount 21 = .ok (.athrow, 1) := by decide +kernel
theorem dX3_requireCount_22 : decode cX3_requireCount 22 = .ok (.return_, 1) := by decide +kernel
theorem dX3_turnPages_0 : decode cX3_turnPages 0 = .ok (.aload_n 0, 1) := by decide +kernel
theorem dX3_turnPages_1 : decode cX3_turnPages 1 = .ok (.iload_n 1, 1) := by decide +kernel
theorem dX3_turnPages_2 : decode cX3_turnPages 2 = .ok (.invokevirtual 166, 3) := by decide +kernel
theorem dX3_turnPages_5 : decode cX3_turnPages 5 = .ok (.aload_n 0, 1) := by decide +kernel
theorem dX3_turnPages_6 : decode cX3_turnPages 6 = .ok (.iload_n 2, 1) := by decide +kernel
theorem dX3_turnPages_7 : decode cX3_turnPages 7 = .ok (.ifCond .eq 8, 3) := by decide +kernel
theorem dX3_turnPages_10 : decode cX3_turnPages 10 = .ok (.bipush 84, 2) := by decide +kernel
theorem dX3_turnPages_12 : decode cX3_turnPages 12 = .ok (.goto 5, 3) := by decide +kernel
theorem dX3_turnPages_15 : decode cX3_turnPages 15 = .ok (.bipush 66, 2) := by decide +kernel
theorem dX3_turnPages_17 : decode cX3_turnPages 17 = .ok (.iload_n 1, 1) := by decide +kernel
theorem dX3_turnPages_18 : decode cX3_turnPages 18 = .ok (.iconst 0, 1) := by decide +kernel
theorem dX3_turnPages_19 : decode cX3_turnPages 19 = .ok (.invokevirtual 67, 3) := by decide +kernel
theorem dX3_turnPages_22 : decode cX3_turnPages 22 = .ok (.ireturn, 1) := by decide +kernel
theorem dX3_currentPage_0 : decode cX3_currentPage 0 = .ok (.aload_n 0, 1) := by decide +kernel
theorem dX3_currentPage_1 : decode cX3_currentPage 1 = .ok (.getfield 10, 3) := by decide +kernel
theorem dX3_currentPage_4 : decode cX3_currentPage 4 = .ok (.getfield 169, 3) := by decide +kernel
theorem dX3_currentPage_7 : decode cX3_currentPage 7 = .ok (.ireturn, 1) := by decide +kernel
theorem dX3_pagesToNextMark_0 : decode cX3_pagesToNextMark 0 = .ok (.aload_n 0, 1) := by decide +kernel
theorem dX3_pagesToNextMark_1 : decode cX3_pagesToNextMark 1 = .ok (.getfield 10, 3) := by decide +kernel
theorem dX3_pagesToNextMark_4 : decode cX3_pagesToNextMark 4 = .ok (.aload_n 0, 1) := by decide +kernel
theorem dX3_pagesToNextMark_5 : decode cX3_pagesToNextMark 5 = .ok (.getfield 10, 3) := by decide +kernel
theorem dX3_pagesToNextMark_8 : decode cX3_pagesToNextMark 8 = .ok (.getfield 169, 3) := by decide +kernel
theorem dX3_pagesToNextMark_11 : decode cX3_pagesToNextMark 11 = .ok (.iconst 1, 1) := by decide +kernel
theorem dX3_pagesToNextMark_12 : decode cX3_pagesToNextMark 12 = .ok (.iadd, 1) := by decide +kernel
theorem dX3_pagesToNextMark_13 : decode cX3_pagesToNextMark 13 = .ok (.invokevirtual 120, 3) := by decide +kernel
theorem dX3_pagesToNextMark_16 : decode cX3_pagesToNextMark 16 = .ok (.istore_n 1, 1) := by decide +kernel
theorem dX3_pagesToNextMark_17 : decode cX3_pagesToNextMark 17 = .ok (.iload_n 1, 1) := by decide +kernel
theorem dX3_pagesToNextMark_18 : decode cX3_pagesToNextMark 18 = .ok (.iconst (-1), 1) := by decide +kernel
theorem dX3_pagesToNextMark_19 : decode cX3_pagesToNextMark 19 = .ok (.if_icmp .ne 13, 3) := by decide +kernel
theorem dX3_pagesToNextMark_22 : decode cX3_pagesToNextMark 22 = .ok (.new 96, 3) := by decide +kernel
theorem dX3_pagesToNextMark_25 : decode cX3_pagesToNextMark 25 = .ok (.dup, 1) := by decide +kernel
theorem dX3_pagesToNextMark_26 : decode cX3_pagesToNextMark 26 = .ok (.ldc 172, 2) := by decide +kernel
theorem dX3_pagesToNextMark_28 : decode cX3_pagesToNextMark 28 = .ok (.invokespecial 100, 3) := by decide +kernel
theorem dX3_pagesToNextMark_31 : decode cX3_pagesToNextMark 31 = .ok (.athrow, 1) := by decide +kernel
theorem dX3_pagesToNextMark_32 : decode cX3_pagesToNextMark 32 = .ok (.aload_n 0, 1) := by decide +kernel
theorem dX3_pagesToNextMark_33 : decode cX3_pagesToNextMark 33 = .ok (.getfield 10, 3) := by decide +kernel
theorem dX3_pagesToNextMark_36 : decode cX3_pagesToNextMark 36 = .ok (.getfield 86, 3) := by decide +kernel
theorem dX3_pagesToNextMark_39 : decode cX3_pagesToNextMark 39 = .ok (.iload_n 1, 1) := by decide +kernel
theorem dX3_pagesToNextMark_40 : decode cX3_pagesToNextMark 40 = .ok (.iaload, 1) := by decide +kernel
theorem dX3_pagesToNextMark_41 : decode cX3_pagesToNextMark 41 = .ok (.aload_n 0, 1) := by decide +kernel
theorem dX3_pagesToNextMark_42 : decode cX3_pagesToNextMark 42 = .ok (.getfield 10, 3) := by decide +kernel
theorem dX3_pagesToNextMark_45 : decode cX3_pagesToNextMark 45 = .ok (.getfield 169, 3) := by decide +kernel
theorem dX3_pagesToNextMark_48 : decode cX3_pagesToNextMark 48 = .ok (.isub, 1) := by decide +kernel
theorem dX3_pagesToNextMark_49 : decode cX3_pagesToNextMark 49 = .ok (.ireturn, 1) := by decide +kernel
theorem dX3_earsAtRisk_0 : decode cX3_earsAtRisk 0 = .ok (.aload_n 0, 1) := by decide +kernel
theorem dX3_earsAtRisk_1 : decode cX3_earsAtRisk 1 = .ok (.iload_n 1, 1) := by decide +kernel
theorem dX3_earsAtRisk_2 : decode cX3_earsAtRisk 2 = .ok (.invokevirtual 166, 3) := by decide +kernel
theorem dX3_earsAtRisk_5 : decode cX3_earsAtRisk 5 = .ok (.aload_n 0, 1) := by decide +kernel
theorem dX3_earsAtRisk_6 : decode cX3_earsAtRisk 6 = .ok (.getfield 10, 3) := by decide +kernel
theorem dX3_earsAtRisk_9 : decode cX3_earsAtRisk 9 = .ok (.iload_n 1, 1) := by decide +kernel
theorem dX3_earsAtRisk_10 : decode cX3_earsAtRisk 10 = .ok (.iload_n 2, 1) := by decide +kernel
theorem dX3_earsAtRisk_11 : decode cX3_earsAtRisk 11 = .ok (.invokevirtual 174, 3) := by decide +kernel
theorem dX3_earsAtRisk_14 : decode cX3_earsAtRisk 14 = .ok (.ireturn, 1) := by decide +kernel
theorem dX3_markByPage_0 : decode cX3_markByPage 0 = .ok (.aload_n 0, 1) := by decide +kernel
theorem dX3_markByPage_1 : decode cX3_markByPage 1 = .ok (.iload_n 1, 1) := by decide +kernel
theorem dX3_markByPage_2 : decode cX3_markByPage 2 = .ok (.ifCond .lt 18, 3) := by decide +kernel
theorem dX3_markByPage_5 : decode cX3_markByPage 5 = .ok (.iload_n 1, 1) := by decide +kernel
theorem dX3_markByPage_6 : decode cX3_markByPage 6 = .ok (.aload_n 0, 1) := by decide +kernel
theorem dX3_markByPage_7 : decode cX3_markByPage 7 = .ok (.getfield 10, 3) := by decide +kernel
theorem dX3_markByPage_10 : decode cX3_markByPage 10 = .ok (.getfield 178, 3) := by decide +kernel
theorem dX3_markByPage_13 : decode cX3_markByPage 13 = .ok (.if_icmp .ge 7, 3) := by decide +kernel
theorem dX3_markByPage_16 : decode cX3_markByPage 16 = .ok (.iload_n 1, 1) := by decide +kernel
theorem dX3_markByPage_17 : decode cX3_markByPage 17 = .ok (.goto 4, 3) := by decide +kernel
theorem dX3_markByPage_20 : decode cX3_markByPage 20 = .ok (.iconst (-1), 1) := by decide +kernel
theorem dX3_markByPage_21 : decode cX3_markByPage 21 = .ok (.invokevirtual 114, 3) := by decide +kernel
theorem dX3_markByPage_24 : decode cX3_markByPage 24 = .ok (.ireturn, 1) := by decide +kernel
theorem dX3_markByWeight_0 : decode cX3_markByWeight 0 = .ok (.aload_n 0, 1) := by decide +kernel
theorem dX3_markByWeight_1 : decode cX3_markByWeight 1 = .ok (.aload_n 0, 1) := by decide +kernel
theorem dX3_markByWeight_2 : decode cX3_markByWeight 2 = .ok (.getfield 10, 3) := by decide +kernel
theorem dX3_markByWeight_5 : decode cX3_markByWeight 5 = .ok (.iload_n 1, 1) := by decide +kernel
theorem dX3_markByWeight_6 : decode cX3_markByWeight 6 = .ok (.invokevirtual 181, 3) := by decide +kernel
theorem dX3_markByWeight_9 : decode cX3_markByWeight 9 = .ok (.invokevirtual 114, 3) := by decide +kernel
theorem dX3_markByWeight_12 : decode cX3_markByWeight 12 = .ok (.ireturn, 1) := by decide +kernel
theorem dX3_span_0 : decode cX3_span 0 = .ok (.aload_n 0, 1) := by decide +kernel
theorem dX3_span_1 : decode cX3_span 1 = .ok (.getfield 10, 3) := by decide +kernel
theorem dX3_span_4 : decode cX3_span 4 = .ok (.invokevirtual 184, 3) := by decide +kernel
theorem dX3_span_7 : decode cX3_span 7 = .ok (.ireturn, 1) := by decide +kernel
theorem dX3_spanByEnds_0 : decode cX3_spanByEnds 0 = .ok (.aload_n 0, 1) := by decide +kernel
theorem dX3_spanByEnds_1 : decode cX3_spanByEnds 1 = .ok (.getfield 10, 3) := by decide +kernel
theorem dX3_spanByEnds_4 : decode cX3_spanByEnds 4 = .ok (.invokevirtual 187, 3) := by decide +kernel
theorem dX3_spanByEnds_7 : decode cX3_spanByEnds 7 = .ok (.ireturn, 1) := by decide +kernel
theorem dX3_ribbonWeight_0 : decode cX3_ribbonWeight 0 = .ok (.aload_n 0, 1) := by decide +kernel
theorem dX3_ribbonWeight_1 : decode cX3_ribbonWeight 1 = .ok (.getfield 10, 3) := by decide +kernel
theorem dX3_ribbonWeight_4 : decode cX3_ribbonWeight 4 = .ok (.iconst 1, 1) := by decide +kernel
theorem dX3_ribbonWeight_5 : decode cX3_ribbonWeight 5 = .ok (.invokevirtual 190, 3) := by decide +kernel
theorem dX3_ribbonWeight_8 : decode cX3_ribbonWeight 8 = .ok (.ireturn, 1) := by decide +kernel
theorem dX3_dogEarWeight_0 : decode cX3_dogEarWeight 0 = .ok (.aload_n 0, 1) := by decide +kernel
theorem dX3_dogEarWeight_1 : decode cX3_dogEarWeight 1 = .ok (.getfield 10, 3) := by decide +kernel
theorem dX3_dogEarWeight_4 : decode cX3_dogEarWeight 4 = .ok (.iconst 0, 1) := by decide +kernel
theorem dX3_dogEarWeight_5 : decode cX3_dogEarWeight 5 = .ok (.invokevirtual 190, 3) := by decide +kernel
theorem dX3_dogEarWeight_8 : decode cX3_dogEarWeight 8 = .ok (.ireturn, 1) := by decide +kernel
theorem dX3_markCount_0 : decode cX3_markCount 0 = .ok (.aload_n 0, 1) := by decide +kernel
theorem dX3_markCount_1 : decode cX3_markCount 1 = .ok (.getfield 10, 3) := by decide +kernel
theorem dX3_markCount_4 : decode cX3_markCount 4 = .ok (.getfield 178, 3) := by decide +kernel
theorem dX3_markCount_7 : decode cX3_markCount 7 = .ok (.ireturn, 1) := by decide +kernel
theorem dX3_ribbonCount_0 : decode cX3_ribbonCount 0 = .ok (.aload_n 0, 1) := by decide +kernel
theorem dX3_ribbonCount_1 : decode cX3_ribbonCount 1 = .ok (.getfield 10, 3) := by decide +kernel
theorem dX3_ribbonCount_4 : decode cX3_ribbonCount 4 = .ok (.invokevirtual 194, 3) := by decide +kernel
theorem dX3_ribbonCount_7 : decode cX3_ribbonCount 7 = .ok (.ireturn, 1) := by decide +kernel
theorem dX3_chapterCount_0 : decode cX3_chapterCount 0 = .ok (.aload_n 0, 1) := by decide +kernel
theorem dX3_chapterCount_1 : decode cX3_chapterCount 1 = .ok (.getfield 10, 3) := by decide +kernel
theorem dX3_chapterCount_4 : decode cX3_chapterCount 4 = .ok (.getfield 197, 3) := by decide +kernel
theorem dX3_chapterCount_7 : decode cX3_chapterCount 7 = .ok (.ireturn, 1) := by decide +kernel
theorem dX3_votesHeld_0 : decode cX3_votesHeld 0 = .ok (.aload_n 0, 1) := by decide +kernel
theorem dX3_votesHeld_1 : decode cX3_votesHeld 1 = .ok (.getfield 10, 3) := by decide +kernel
theorem dX3_votesHeld_4 : decode cX3_votesHeld 4 = .ok (.getfield 200, 3) := by decide +kernel
theorem dX3_votesHeld_7 : decode cX3_votesHeld 7 = .ok (.ireturn, 1) := by decide +kernel
theorem dX3_motionsCarried_0 : decode cX3_motionsCarried 0 = .ok (.aload_n 0, 1) := by decide +kernel
theorem dX3_motionsCarried_1 : decode cX3_motionsCarried 1 = .ok (.getfield 10, 3) := by decide +kernel
theorem dX3_motionsCarried_4 : decode cX3_motionsCarried 4 = .ok (.getfield 203, 3) := by decide +kernel
theorem dX3_motionsCarried_7 : decode cX3_motionsCarried 7 = .ok (.ireturn, 1) := by decide +kernel
theorem dX3_isConsistent_0 : decode cX3_isConsistent 0 = .ok (.aload_n 0, 1) := by decide +kernel
theorem dX3_isConsistent_1 : decode cX3_isConsistent 1 = .ok (.getfield 10, 3) := by decide +kernel
theorem dX3_isConsistent_4 : decode cX3_isConsistent 4 = .ok (.invokevirtual 217, 3) := by decide +kernel
theorem dX3_isConsistent_7 : decode cX3_isConsistent 7 = .ok (.ifCond .eq 44, 3) := by decide +kernel
theorem dX3_isConsistent_10 : decode cX3_isConsistent 10 = .ok (.aload_n 0, 1) := by decide +kernel
theorem dX3_isConsistent_11 : decode cX3_isConsistent 11 = .ok (.getfield 10, 3) := by decide +kernel
theorem dX3_isConsistent_14 : decode cX3_isConsistent 14 = .ok (.invokevirtual 184, 3) := by decide +kernel
theorem dX3_isConsistent_17 : decode cX3_isConsistent 17 = .ok (.aload_n 0, 1) := by decide +kernel
theorem dX3_isConsistent_18 : decode cX3_isConsistent 18 = .ok (.getfield 10, 3) := by decide +kernel
theorem dX3_isConsistent_21 : decode cX3_isConsistent 21 = .ok (.invokevirtual 187, 3) := by decide +kernel
theorem dX3_isConsistent_24 : decode cX3_isConsistent 24 = .ok (.if_icmp .ne 27, 3) := by decide +kernel
theorem dX3_isConsistent_27 : decode cX3_isConsistent 27 = .ok (.aload_n 0, 1) := by decide +kernel
theorem dX3_isConsistent_28 : decode cX3_isConsistent 28 = .ok (.getfield 10, 3) := by decide +kernel
theorem dX3_isConsistent_31 : decode cX3_isConsistent 31 = .ok (.invokevirtual 221, 3) := by decide +kernel
theorem dX3_isConsistent_34 : decode cX3_isConsistent 34 = .ok (.ifCond .eq 17, 3) := by decide +kernel
theorem dX3_isConsistent_37 : decode cX3_isConsistent 37 = .ok (.aload_n 0, 1) := by decide +kernel
theorem dX3_isConsistent_38 : decode cX3_isConsistent 38 = .ok (.getfield 10, 3) := by decide +kernel
theorem dX3_isConsistent_41 : decode cX3_isConsistent 41 = .ok (.invokevirtual 224, 3) := by decide +kernel
theorem dX3_isConsistent_44 : decode cX3_isConsistent 44 = .ok (.ifCond .eq 7, 3) := by decide +kernel
theorem dX3_isConsistent_47 : decode cX3_isConsistent 47 = .ok (.iconst 1, 1) := by decide +kernel
theorem dX3_isConsistent_48 : decode cX3_isConsistent 48 = .ok (.goto 4, 3) := by decide +kernel
theorem dX3_isConsistent_51 : decode cX3_isConsistent 51 = .ok (.iconst 0, 1) := by decide +kernel
theorem dX3_isConsistent_52 : decode cX3_isConsistent 52 = .ok (.ireturn, 1) := by decide +kernel
theorem dX3_requireRejection_0 : decode cX3_requireRejection 0 = .ok (.aload_n 0, 1) := by decide +kernel
theorem dX3_requireRejection_1 : decode cX3_requireRejection 1 = .ok (.getfield 51, 3) := by decide +kernel
theorem dX3_requireRejection_4 : decode cX3_requireRejection 4 = .ok (.ifCond .ne 14, 3) := by decide +kernel
theorem dX3_requireRejection_7 : decode cX3_requireRejection 7 = .ok (.new 96, 3) := by decide +kernel
theorem dX3_requireRejection_10 : decode cX3_requireRejection 10 = .ok (.dup, 1) := by decide +kernel
theorem dX3_requireRejection_11 : decode cX3_requireRejection 11 = .ok (.ldc_w 355, 3) := by decide +kernel
theorem dX3_requireRejection_14 : decode cX3_requireRejection 14 = .ok (.invokespecial 100, 3) := by decide +kernel
theorem dX3_requireRejection_17 : decode cX3_requireRejection 17 = .ok (.athrow, 1) := by decide +kernel
theorem dX3_requireRejection_18 : decode cX3_requireRejection 18 = .ok (.return_, 1) := by decide +kernel
theorem dX3_rejectionReason_0 : decode cX3_rejectionReason 0 = .ok (.aload_n 0, 1) := by decide +kernel
theorem dX3_rejectionReason_1 : decode cX3_rejectionReason 1 = .ok (.invokevirtual 312, 3) := by decide +kernel
theorem dX3_rejectionReason_4 : decode cX3_rejectionReason 4 = .ok (.aload_n 0, 1) := by decide +kernel
theorem dX3_rejectionReason_5 : decode cX3_rejectionReason 5 = .ok (.getfield 51, 3) := by decide +kernel
theorem dX3_rejectionReason_8 : decode cX3_rejectionReason 8 = .ok (.ireturn, 1) := by decide +kernel
