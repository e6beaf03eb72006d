/-! ===== names and links of the law's methods ===== -/
abbrev cL_cell : ByteArray := method_2_code
def yL_cell : MethodName := ⟨RL, "cell", "([II)I"⟩
abbrev cL_some : ByteArray := method_3_code
def yL_some : MethodName := ⟨RL, "some", "([III)I"⟩
abbrev cL_addRibbon : ByteArray := method_4_code
def yL_addRibbon : MethodName := ⟨RL, "addRibbon", "(LBookmarkManager;II)I"⟩
abbrev cL_addDogEar : ByteArray := method_5_code
def yL_addDogEar : MethodName := ⟨RL, "addDogEar", "(LBookmarkManager;II)I"⟩
abbrev cL_removeMark : ByteArray := method_6_code
def yL_removeMark : MethodName := ⟨RL, "removeMark", "(LBookmarkManager;I)I"⟩
abbrev cL_moveRibbon : ByteArray := method_7_code
def yL_moveRibbon : MethodName := ⟨RL, "moveRibbon", "(LBookmarkManager;II)I"⟩
abbrev cL_swapSeats : ByteArray := method_8_code
def yL_swapSeats : MethodName := ⟨RL, "swapSeats", "(LBookmarkManager;II)I"⟩
abbrev cL_startChapter : ByteArray := method_9_code
def yL_startChapter : MethodName := ⟨RL, "startChapter", "(LBookmarkManager;I)I"⟩
abbrev cL_turnPages : ByteArray := method_10_code
def yL_turnPages : MethodName := ⟨RL, "turnPages", "(LBookmarkManager;IZ)I"⟩
abbrev cL_seatOf : ByteArray := method_11_code
def yL_seatOf : MethodName := ⟨RL, "seatOf", "(LBookmarkManager;I)I"⟩
abbrev cL_ribbonIn : ByteArray := method_12_code
def yL_ribbonIn : MethodName := ⟨RL, "ribbonIn", "(LBookmarkManager;I)I"⟩
abbrev cL_markOn : ByteArray := method_13_code
def yL_markOn : MethodName := ⟨RL, "markOn", "(LBookmarkManager;I)I"⟩
abbrev cL_nextMark : ByteArray := method_14_code
def yL_nextMark : MethodName := ⟨RL, "nextMark", "(LBookmarkManager;I)I"⟩
abbrev cL_previousMark : ByteArray := method_15_code
def yL_previousMark : MethodName := ⟨RL, "previousMark", "(LBookmarkManager;I)I"⟩
abbrev cL_nearestMark : ByteArray := method_16_code
def yL_nearestMark : MethodName := ⟨RL, "nearestMark", "(LBookmarkManager;I)I"⟩
abbrev cL_pagesToNextMark : ByteArray := method_17_code
def yL_pagesToNextMark : MethodName := ⟨RL, "pagesToNextMark", "(LBookmarkManager;)I"⟩
abbrev cL_markByPage : ByteArray := method_18_code
def yL_markByPage : MethodName := ⟨RL, "markByPage", "(LBookmarkManager;I)I"⟩
abbrev cL_markByWeight : ByteArray := method_19_code
def yL_markByWeight : MethodName := ⟨RL, "markByWeight", "(LBookmarkManager;I)I"⟩
abbrev cL_vote : ByteArray := method_20_code
def yL_vote : MethodName := ⟨RL, "vote", "(LBookmarkManager;I)I"⟩
abbrev cL_build : ByteArray := method_21_code
def yL_build : MethodName := ⟨RL, "build", "(LBookmarkManager;[I)V"⟩
abbrev cL_acts : ByteArray := method_22_code
def yL_acts : MethodName := ⟨RL, "acts", "(LBookmarkManager;[II)V"⟩
abbrev cL_isLine : ByteArray := method_23_code
def yL_isLine : MethodName := ⟨RL, "isLine", "(LBookmarkManager;ILjava/lang/String;)Z"⟩
theorem dL_cell_0 : decode cL_cell 0 = .ok (.iload_n 1, 1) := by decide +kernel
theorem dL_cell_1 : decode cL_cell 1 = .ok (.aload_n 0, 1) := by decide +kernel
theorem dL_cell_2 : decode cL_cell 2 = .ok (.arraylength, 1) := by decide +kernel
theorem dL_cell_3 : decode cL_cell 3 = .ok (.if_icmp .ge 9, 3) := by decide +kernel
theorem dL_cell_6 : decode cL_cell 6 = .ok (.aload_n 0, 1) := by decide +kernel
theorem dL_cell_7 : decode cL_cell 7 = .ok (.iload_n 1, 1) := by decide +kernel
theorem dL_cell_8 : decode cL_cell 8 = .ok (.iaload, 1) := by decide +kernel
theorem dL_cell_9 : decode cL_cell 9 = .ok (.goto 11, 3) := by decide +kernel
theorem dL_cell_12 : decode cL_cell 12 = .ok (.sipush 7919, 3) := by decide +kernel
theorem dL_cell_15 : decode cL_cell 15 = .ok (.iload_n 1, 1) := by decide +kernel
theorem dL_cell_16 : decode cL_cell 16 = .ok (.imul, 1) := by decide +kernel
theorem dL_cell_17 : decode cL_cell 17 = .ok (.bipush 12, 2) := by decide +kernel
theorem dL_cell_19 : decode cL_cell 19 = .ok (.iadd, 1) := by decide +kernel
theorem dL_cell_20 : decode cL_cell 20 = .ok (.ireturn, 1) := by decide +kernel
theorem dL_some_0 : decode cL_some 0 = .ok (.aload_n 0, 1) := by decide +kernel
theorem dL_some_1 : decode cL_some 1 = .ok (.iload_n 1, 1) := by decide +kernel
theorem dL_some_2 : decode cL_some 2 = .ok (.invokestatic 7, 3) := by decide +kernel
theorem dL_some_5 : decode cL_some 5 = .ok (.iconst 3, 1) := by decide +kernel
theorem dL_some_6 : decode cL_some 6 = .ok (.iushr, 1) := by decide +kernel
theorem dL_some_7 : decode cL_some 7 = .ok (.iload_n 2, 1) := by decide +kernel
theorem dL_some_8 : decode cL_some 8 = .ok (.irem, 1) := by decide +kernel
theorem dL_some_9 : decode cL_some 9 = .ok (.ireturn, 1) := by decide +kernel
theorem dL_addRibbon_0 : decode cL_addRibbon 0 = .ok (.aload_n 0, 1) := by decide +kernel
theorem dL_addRibbon_1 : decode cL_addRibbon 1 = .ok (.iload_n 1, 1) := by decide +kernel
theorem dL_addRibbon_2 : decode cL_addRibbon 2 = .ok (.iload_n 2, 1) := by decide +kernel
theorem dL_addRibbon_3 : decode cL_addRibbon 3 = .ok (.invokevirtual 13, 3) := by decide +kernel
theorem dL_addRibbon_6 : decode cL_addRibbon 6 = .ok (.ireturn, 1) := by decide +kernel
theorem dL_addRibbon_7 : decode cL_addRibbon 7 = .ok (.astore_n 3, 1) := by decide +kernel
theorem dL_addRibbon_8 : decode cL_addRibbon 8 = .ok (.sipush (-25000), 3) := by decide +kernel
theorem dL_addRibbon_11 : decode cL_addRibbon 11 = .ok (.ireturn, 1) := by decide +kernel
theorem dL_addRibbon_12 : decode cL_addRibbon 12 = .ok (.astore_n 3, 1) := by decide +kernel
theorem dL_addRibbon_13 : decode cL_addRibbon 13 = .ok (.sipush (-20000), 3) := by decide +kernel
theorem dL_addRibbon_16 : decode cL_addRibbon 16 = .ok (.ireturn, 1) := by decide +kernel
theorem dL_addRibbon_17 : decode cL_addRibbon 17 = .ok (.astore_n 3, 1) := by decide +kernel
theorem dL_addRibbon_18 : decode cL_addRibbon 18 = .ok (.sipush (-10000), 3) := by decide +kernel
theorem dL_addRibbon_21 : decode cL_addRibbon 21 = .ok (.aload_n 0, 1) := by decide +kernel
theorem dL_addRibbon_22 : decode cL_addRibbon 22 = .ok (.invokevirtual 25, 3) := by decide +kernel
theorem dL_addRibbon_25 : decode cL_addRibbon 25 = .ok (.isub, 1) := by decide +kernel
theorem dL_addRibbon_26 : decode cL_addRibbon 26 = .ok (.ireturn, 1) := by decide +kernel
theorem dL_addDogEar_0 : decode cL_addDogEar 0 = .ok (.aload_n 0, 1) := by decide +kernel
theorem dL_addDogEar_1 : decode cL_addDogEar 1 = .ok (.iload_n 1, 1) := by decide +kernel
theorem dL_addDogEar_2 : decode cL_addDogEar 2 = .ok (.iload_n 2, 1) := by decide +kernel
theorem dL_addDogEar_3 : decode cL_addDogEar 3 = .ok (.invokevirtual 29, 3) := by decide +kernel
theorem dL_addDogEar_6 : decode cL_addDogEar 6 = .ok (.ireturn, 1) := by decide +kernel
theorem dL_addDogEar_7 : decode cL_addDogEar 7 = .ok (.astore_n 3, 1) := by decide +kernel
theorem dL_addDogEar_8 : decode cL_addDogEar 8 = .ok (.sipush (-25000), 3) := by decide +kernel
theorem dL_addDogEar_11 : decode cL_addDogEar 11 = .ok (.ireturn, 1) := by decide +kernel
theorem dL_addDogEar_12 : decode cL_addDogEar 12 = .ok (.astore_n 3, 1) := by decide +kernel
theorem dL_addDogEar_13 : decode cL_addDogEar 13 = .ok (.sipush (-20000), 3) := by decide +kernel
theorem dL_addDogEar_16 : decode cL_addDogEar 16 = .ok (.ireturn, 1) := by decide +kernel
theorem dL_addDogEar_17 : decode cL_addDogEar 17 = .ok (.astore_n 3, 1) := by decide +kernel
theorem dL_addDogEar_18 : decode cL_addDogEar 18 = .ok (.sipush (-10000), 3) := by decide +kernel
theorem dL_addDogEar_21 : decode cL_addDogEar 21 = .ok (.aload_n 0, 1) := by decide +kernel
theorem dL_addDogEar_22 : decode cL_addDogEar 22 = .ok (.invokevirtual 25, 3) := by decide +kernel
theorem dL_addDogEar_25 : decode cL_addDogEar 25 = .ok (.isub, 1) := by decide +kernel
theorem dL_addDogEar_26 : decode cL_addDogEar 26 = .ok (.ireturn, 1) := by decide +kernel
theorem dL_removeMark_0 : decode cL_removeMark 0 = .ok (.aload_n 0, 1) := by decide +kernel
theorem dL_removeMark_1 : decode cL_removeMark 1 = .ok (.iload_n 1, 1) := by decide +kernel
theorem dL_removeMark_2 : decode cL_removeMark 2 = .ok (.invokevirtual 32, 3) := by decide +kernel
theorem dL_removeMark_5 : decode cL_removeMark 5 = .ok (.ireturn, 1) := by decide +kernel
theorem dL_removeMark_6 : decode cL_removeMark 6 = .ok (.astore_n 2, 1) := by decide +kernel
theorem dL_removeMark_7 : decode cL_removeMark 7 = .ok (.sipush (-25000), 3) := by decide +kernel
theorem dL_removeMark_10 : decode cL_removeMark 10 = .ok (.ireturn, 1) := by decide +kernel
theorem dL_moveRibbon_0 : decode cL_moveRibbon 0 = .ok (.aload_n 0, 1) := by decide +kernel
theorem dL_moveRibbon_1 : decode cL_moveRibbon 1 = .ok (.iload_n 1, 1) := by decide +kernel
theorem dL_moveRibbon_2 : decode cL_moveRibbon 2 = .ok (.iload_n 2, 1) := by decide +kernel
theorem dL_moveRibbon_3 : decode cL_moveRibbon 3 = .ok (.invokevirtual 36, 3) := by decide +kernel
theorem dL_moveRibbon_6 : decode cL_moveRibbon 6 = .ok (.ireturn, 1) := by decide +kernel
theorem dL_moveRibbon_7 : decode cL_moveRibbon 7 = .ok (.astore_n 3, 1) := by decide +kernel
theorem dL_moveRibbon_8 : decode cL_moveRibbon 8 = .ok (.sipush (-25000), 3) := by decide +kernel
theorem dL_moveRibbon_11 : decode cL_moveRibbon 11 = .ok (.ireturn, 1) := by decide +kernel
theorem dL_moveRibbon_12 : decode cL_moveRibbon 12 = .ok (.astore_n 3, 1) := by decide +kernel
theorem dL_moveRibbon_13 : decode cL_moveRibbon 13 = .ok (.sipush (-10000), 3) := by decide +kernel
theorem dL_moveRibbon_16 : decode cL_moveRibbon 16 = .ok (.aload_n 0, 1) := by decide +kernel
theorem dL_moveRibbon_17 : decode cL_moveRibbon 17 = .ok (.invokevirtual 25, 3) := by decide +kernel
theorem dL_moveRibbon_20 : decode cL_moveRibbon 20 = .ok (.isub, 1) := by decide +kernel
theorem dL_moveRibbon_21 : decode cL_moveRibbon 21 = .ok (.ireturn, 1) := by decide +kernel
theorem dL_swapSeats_0 : decode cL_swapSeats 0 = .ok (.aload_n 0, 1) := by decide +kernel
theorem dL_swapSeats_1 : decode cL_swapSeats 1 = .ok (.iload_n 1, 1) := by decide +kernel
theorem dL_swapSeats_2 : decode cL_swapSeats 2 = .ok (.iload_n 2, 1) := by decide +kernel
theorem dL_swapSeats_3 : decode cL_swapSeats 3 = .ok (.invokevirtual 39, 3) := by decide +kernel
theorem dL_swapSeats_6 : decode cL_swapSeats 6 = .ok (.ireturn, 1) := by decide +kernel
theorem dL_swapSeats_7 : decode cL_swapSeats 7 = .ok (.astore_n 3, 1) := by decide +kernel
theorem dL_swapSeats_8 : decode cL_swapSeats 8 = .ok (.sipush (-25000), 3) := by decide +kernel
theorem dL_swapSeats_11 : decode cL_swapSeats 11 = .ok (.ireturn, 1) := by decide +kernel
theorem dL_swapSeats_12 : decode cL_swapSeats 12 = .ok (.astore_n 3, 1) := by decide +kernel
theorem dL_swapSeats_13 : decode cL_swapSeats 13 = .ok (.sipush (-10000), 3) := by decide +kernel
theorem dL_swapSeats_16 : decode cL_swapSeats 16 = .ok (.aload_n 0, 1) := by decide +kernel
theorem dL_swapSeats_17 : decode cL_swapSeats 17 = .ok (.invokevirtual 25, 3) := by decide +kernel
theorem dL_swapSeats_20 : decode cL_swapSeats 20 = .ok (.isub, 1) := by decide +kernel
theorem dL_swapSeats_21 : decode cL_swapSeats 21 = .ok (.ireturn, 1) := by decide +kernel
theorem dL_startChapter_0 : decode cL_startChapter 0 = .ok (.aload_n 0, 1) := by decide +kernel
theorem dL_startChapter_1 : decode cL_startChapter 1 = .ok (.iload_n 1, 1) := by decide +kernel
theorem dL_startChapter_2 : decode cL_startChapter 2 = .ok (.invokevirtual 42, 3) := by decide +kernel
theorem dL_startChapter_5 : decode cL_startChapter 5 = .ok (.ireturn, 1) := by decide +kernel
theorem dL_startChapter_6 : decode cL_startChapter 6 = .ok (.astore_n 2, 1) := by decide +kernel
theorem dL_startChapter_7 : decode cL_startChapter 7 = .ok (.sipush (-25000), 3) := by decide +kernel
theorem dL_startChapter_10 : decode cL_startChapter 10 = .ok (.ireturn, 1) := by decide +kernel
theorem dL_startChapter_11 : decode cL_startChapter 11 = .ok (.astore_n 2, 1) := by decide +kernel
theorem dL_startChapter_12 : decode cL_startChapter 12 = .ok (.sipush (-10000), 3) := by decide +kernel
theorem dL_startChapter_15 : decode cL_startChapter 15 = .ok (.aload_n 0, 1) := by decide +kernel
theorem dL_startChapter_16 : decode cL_startChapter 16 = .ok (.invokevirtual 25, 3) := by decide +kernel
theorem dL_startChapter_19 : decode cL_startChapter 19 = .ok (.isub, 1) := by decide +kernel
theorem dL_startChapter_20 : decode cL_startChapter 20 = .ok (.ireturn, 1) := by decide +kernel
theorem dL_turnPages_0 : decode cL_turnPages 0 = .ok (.aload_n 0, 1) := by decide +kernel
theorem dL_turnPages_1 : decode cL_turnPages 1 = .ok (.iload_n 1, 1) := by decide +kernel
theorem dL_turnPages_2 : decode cL_turnPages 2 = .ok (.iload_n 2, 1) := by decide +kernel
theorem dL_turnPages_3 : decode cL_turnPages 3 = .ok (.invokevirtual 45, 3) := by decide +kernel
theorem dL_turnPages_6 : decode cL_turnPages 6 = .ok (.ireturn, 1) := by decide +kernel
theorem dL_turnPages_7 : decode cL_turnPages 7 = .ok (.astore_n 3, 1) := by decide +kernel
theorem dL_turnPages_8 : decode cL_turnPages 8 = .ok (.sipush (-20000), 3) := by decide +kernel
theorem dL_turnPages_11 : decode cL_turnPages 11 = .ok (.ireturn, 1) := by decide +kernel
theorem dL_turnPages_12 : decode cL_turnPages 12 = .ok (.astore_n 3, 1) := by decide +kernel
theorem dL_turnPages_13 : decode cL_turnPages 13 = .ok (.sipush (-10000), 3) := by decide +kernel
theorem dL_turnPages_16 : decode cL_turnPages 16 = .ok (.aload_n 0, 1) := by decide +kernel
theorem dL_turnPages_17 : decode cL_turnPages 17 = .ok (.invokevirtual 25, 3) := by decide +kernel
theorem dL_turnPages_20 : decode cL_turnPages 20 = .ok (.isub, 1) := by decide +kernel
theorem dL_turnPages_21 : decode cL_turnPages 21 = .ok (.ireturn, 1) := by decide +kernel
theorem dL_seatOf_0 : decode cL_seatOf 0 = .ok (.aload_n 0, 1) := by decide +kernel
theorem dL_seatOf_1 : decode cL_seatOf 1 = .ok (.iload_n 1, 1) := by decide +kernel
theorem dL_seatOf_2 : decode cL_seatOf 2 = .ok (.invokevirtual 49, 3) := by decide +kernel
theorem dL_seatOf_5 : decode cL_seatOf 5 = .ok (.ireturn, 1) := by decide +kernel
theorem dL_seatOf_6 : decode cL_seatOf 6 = .ok (.astore_n 2, 1) := by decide +kernel
theorem dL_seatOf_7 : decode cL_seatOf 7 = .ok (.sipush (-25000), 3) := by decide +kernel
theorem dL_seatOf_10 : decode cL_seatOf 10 = .ok (.ireturn, 1) := by decide +kernel
theorem dL_seatOf_11 : decode cL_seatOf 11 = .ok (.astore_n 2, 1) := by decide +kernel
theorem dL_seatOf_12 : decode cL_seatOf 12 = .ok (.sipush (-30000), 3) := by decide +kernel
theorem dL_seatOf_15 : decode cL_seatOf 15 = .ok (.ireturn, 1) := by decide +kernel
theorem dL_ribbonIn_0 : decode cL_ribbonIn 0 = .ok (.aload_n 0, 1) := by decide +kernel
theorem dL_ribbonIn_1 : decode cL_ribbonIn 1 = .ok (.iload_n 1, 1) := by decide +kernel
theorem dL_ribbonIn_2 : decode cL_ribbonIn 2 = .ok (.invokevirtual 54, 3) := by decide +kernel
theorem dL_ribbonIn_5 : decode cL_ribbonIn 5 = .ok (.ireturn, 1) := by decide +kernel
theorem dL_ribbonIn_6 : decode cL_ribbonIn 6 = .ok (.astore_n 2, 1) := by decide +kernel
theorem dL_ribbonIn_7 : decode cL_ribbonIn 7 = .ok (.sipush (-25000), 3) := by decide +kernel
theorem dL_ribbonIn_10 : decode cL_ribbonIn 10 = .ok (.ireturn, 1) := by decide +kernel
theorem dL_ribbonIn_11 : decode cL_ribbonIn 11 = .ok (.astore_n 2, 1) := by decide +kernel
theorem dL_ribbonIn_12 : decode cL_ribbonIn 12 = .ok (.sipush (-30000), 3) := by decide +kernel
theorem dL_ribbonIn_15 : decode cL_ribbonIn 15 = .ok (.ireturn, 1) := by decide +kernel
theorem dL_markOn_0 : decode cL_markOn 0 = .ok (.aload_n 0, 1) := by decide +kernel
theorem dL_markOn_1 : decode cL_markOn 1 = .ok (.iload_n 1, 1) := by decide +kernel
theorem dL_markOn_2 : decode cL_markOn 2 = .ok (.invokevirtual 57, 3) := by decide +kernel
theorem dL_markOn_5 : decode cL_markOn 5 = .ok (.ireturn, 1) := by decide +kernel
theorem dL_markOn_6 : decode cL_markOn 6 = .ok (.astore_n 2, 1) := by decide +kernel
theorem dL_markOn_7 : decode cL_markOn 7 = .ok (.sipush (-25000), 3) := by decide +kernel
theorem dL_markOn_10 : decode cL_markOn 10 = .ok (.ireturn, 1) := by decide +kernel
theorem dL_markOn_11 : decode cL_markOn 11 = .ok (.astore_n 2, 1) := by decide +kernel
theorem dL_markOn_12 : decode cL_markOn 12 = .ok (.sipush (-30000), 3) := by decide +kernel
theorem dL_markOn_15 : decode cL_markOn 15 = .ok (.ireturn, 1) := by decide +kernel
theorem dL_nextMark_0 : decode cL_nextMark 0 = .ok (.aload_n 0, 1) := by decide +kernel
theorem dL_nextMark_1 : decode cL_nextMark 1 = .ok (.iload_n 1, 1) := by decide +kernel
theorem dL_nextMark_2 : decode cL_nextMark 2 = .ok (.invokevirtual 60, 3) := by decide +kernel
theorem dL_nextMark_5 : decode cL_nextMark 5 = .ok (.ireturn, 1) := by decide +kernel
theorem dL_nextMark_6 : decode cL_nextMark 6 = .ok (.astore_n 2, 1) := by decide +kernel
theorem dL_nextMark_7 : decode cL_nextMark 7 = .ok (.sipush (-25000), 3) := by decide +kernel
theorem dL_nextMark_10 : decode cL_nextMark 10 = .ok (.ireturn, 1) := by decide +kernel
theorem dL_nextMark_11 : decode cL_nextMark 11 = .ok (.astore_n 2, 1) := by decide +kernel
theorem dL_nextMark_12 : decode cL_nextMark 12 = .ok (.sipush (-30000), 3) := by decide +kernel
theorem dL_nextMark_15 : decode cL_nextMark 15 = .ok (.ireturn, 1) := by decide +kernel
theorem dL_previousMark_0 : decode cL_previousMark 0 = .ok (.aload_n 0, 1) := by decide +kernel
theorem dL_previousMark_1 : decode cL_previousMark 1 = .ok (.iload_n 1, 1) := by decide +kernel
theorem dL_previousMark_2 : decode cL_previousMark 2 = .ok (.invokevirtual 63, 3) := by decide +kernel
theorem dL_previousMark_5 : decode cL_previousMark 5 = .ok (.ireturn, 1) := by decide +kernel
theorem dL_previousMark_6 : decode cL_previousMark 6 = .ok (.astore_n 2, 1) := by decide +kernel
theorem dL_previousMark_7 : decode cL_previousMark 7 = .ok (.sipush (-25000), 3) := by decide +kernel
theorem dL_previousMark_10 : decode cL_previousMark 10 = .ok (.ireturn, 1) := by decide +kernel
theorem dL_previousMark_11 : decode cL_previousMark 11 = .ok (.astore_n 2, 1) := by decide +kernel
theorem dL_previousMark_12 : decode cL_previousMark 12 = .ok (.sipush (-30000), 3) := by decide +kernel
theorem dL_previousMark_15 : decode cL_previousMark 15 = .ok (.ireturn, 1) := by decide +kernel
theorem dL_nearestMark_0 : decode cL_nearestMark 0 = .ok (.aload_n 0, 1) := by decide +kernel
theorem dL_nearestMark_1 : decode cL_nearestMark 1 = .ok (.iload_n 1, 1) := by decide +kernel
theorem dL_nearestMark_2 : decode cL_nearestMark 2 = .ok (.invokevirtual 66, 3) := by decide +kernel
theorem dL_nearestMark_5 : decode cL_nearestMark 5 = .ok (.ireturn, 1) := by decide +kernel
theorem dL_nearestMark_6 : decode cL_nearestMark 6 = .ok (.astore_n 2, 1) := by decide +kernel
theorem dL_nearestMark_7 : decode cL_nearestMark 7 = .ok (.sipush (-25000), 3) := by decide +kernel
theorem dL_nearestMark_10 : decode cL_nearestMark 10 = .ok (.ireturn, 1) := by decide +kernel
theorem dL_nearestMark_11 : decode cL_nearestMark 11 = .ok (.astore_n 2, 1) := by decide +kernel
theorem dL_nearestMark_12 : decode cL_nearestMark 12 = .ok (.sipush (-30000), 3) := by decide +kernel
theorem dL_nearestMark_15 : decode cL_nearestMark 15 = .ok (.ireturn, 1) := by decide +kernel
theorem dL_pagesToNextMark_0 : decode cL_pagesToNextMark 0 = .ok (.aload_n 0, 1) := by decide +kernel
theorem dL_pagesToNextMark_1 : decode cL_pagesToNextMark 1 = .ok (.invokevirtual 69, 3) := by decide +kernel
theorem dL_pagesToNextMark_4 : decode cL_pagesToNextMark 4 = .ok (.ireturn, 1) := by decide +kernel
theorem dL_pagesToNextMark_5 : decode cL_pagesToNextMark 5 = .ok (.astore_n 1, 1) := by decide +kernel
theorem dL_pagesToNextMark_6 : decode cL_pagesToNextMark 6 = .ok (.sipush (-30000), 3) := by decide +kernel
theorem dL_pagesToNextMark_9 : decode cL_pagesToNextMark 9 = .ok (.ireturn, 1) := by decide +kernel
theorem dL_markByPage_0 : decode cL_markByPage 0 = .ok (.aload_n 0, 1) := by decide +kernel
theorem dL_markByPage_1 : decode cL_markByPage 1 = .ok (.iload_n 1, 1) := by decide +kernel
theorem dL_markByPage_2 : decode cL_markByPage 2 = .ok (.invokevirtual 72, 3) := by decide +kernel
theorem dL_markByPage_5 : decode cL_markByPage 5 = .ok (.ireturn, 1) := by decide +kernel
theorem dL_markByPage_6 : decode cL_markByPage 6 = .ok (.astore_n 2, 1) := by decide +kernel
theorem dL_markByPage_7 : decode cL_markByPage 7 = .ok (.sipush (-30000), 3) := by decide +kernel
theorem dL_markByPage_10 : decode cL_markByPage 10 = .ok (.ireturn, 1) := by decide +kernel
theorem dL_markByWeight_0 : decode cL_markByWeight 0 = .ok (.aload_n 0, 1) := by decide +kernel
theorem dL_markByWeight_1 : decode cL_markByWeight 1 = .ok (.iload_n 1, 1) := by decide +kernel
theorem dL_markByWeight_2 : decode cL_markByWeight 2 = .ok (.invokevirtual 75, 3) := by decide +kernel
theorem dL_markByWeight_5 : decode cL_markByWeight 5 = .ok (.ireturn, 1) := by decide +kernel
theorem dL_markByWeight_6 : decode cL_markByWeight 6 = .ok (.astore_n 2, 1) := by decide +kernel
theorem dL_markByWeight_7 : decode cL_markByWeight 7 = .ok (.sipush (-30000), 3) := by decide +kernel
theorem dL_markByWeight_10 : decode cL_markByWeight 10 = .ok (.ireturn, 1) := by decide +kernel
theorem dL_vote_0 : decode cL_vote 0 = .ok (.aload_n 0, 1) := by decide +kernel
theorem dL_vote_1 : decode cL_vote 1 = .ok (.iload_n 1, 1) := by decide +kernel
theorem dL_vote_2 : decode cL_vote 2 = .ok (.invokevirtual 78, 3) := by decide +kernel
theorem dL_vote_5 : decode cL_vote 5 = .ok (.ifCond .eq 7, 3) := by decide +kernel
theorem dL_vote_8 : decode cL_vote 8 = .ok (.iconst 1, 1) := by decide +kernel
theorem dL_vote_9 : decode cL_vote 9 = .ok (.goto 4, 3) := by decide +kernel
theorem dL_vote_12 : decode cL_vote 12 = .ok (.iconst 0, 1) := by decide +kernel
theorem dL_vote_13 : decode cL_vote 13 = .ok (.ireturn, 1) := by decide +kernel
theorem dL_vote_14 : decode cL_vote 14 = .ok (.astore_n 2, 1) := by decide +kernel
theorem dL_vote_15 : decode cL_vote 15 = .ok (.sipush (-25000), 3) := by decide +kernel
theorem dL_vote_18 : decode cL_vote 18 = .ok (.ireturn, 1) := by decide +kernel
theorem dL_vote_19 : decode cL_vote 19 = .ok (.astore_n 2, 1) := by decide +kernel
theorem dL_vote_20 : decode cL_vote 20 = .ok (.sipush (-10000), 3) := by decide +kernel
theorem dL_vote_23 : decode cL_vote 23 = .ok (.aload_n 0, 1) := by decide +kernel
theorem dL_vote_24 : decode cL_vote 24 = .ok (.invokevirtual 25, 3) := by decide +kernel
theorem dL_vote_27 : decode cL_vote 27 = .ok (.isub, 1) := by decide +kernel
theorem dL_vote_28 : decode cL_vote 28 = .ok (.ireturn, 1) := by decide +kernel
theorem dL_build_0 : decode cL_build 0 = .ok (.iconst 0, 1) := by decide +kernel
theorem dL_build_1 : decode cL_build 1 = .ok (.istore_n 3, 1) := by decide +kernel
theorem dL_build_2 : decode cL_build 2 = .ok (.iload_n 3, 1) := by decide +kernel
theorem dL_build_3 : decode cL_build 3 = .ok (.iconst 4, 1) := by decide +kernel
theorem dL_build_4 : decode cL_build 4 = .ok (.if_icmp .ge 33, 3) := by decide +kernel
theorem dL_build_7 : decode cL_build 7 = .ok (.aload_n 0, 1) := by decide +kernel
theorem dL_build_8 : decode cL_build 8 = .ok (.aload_n 1, 1) := by decide +kernel
theorem dL_build_9 : decode cL_build 9 = .ok (.iload_n 3, 1) := by decide +kernel
theorem dL_build_10 : decode cL_build 10 = .ok (.bipush 60, 2) := by decide +kernel
theorem dL_build_12 : decode cL_build 12 = .ok (.invokestatic 82, 3) := by decide +kernel
theorem dL_build_15 : decode cL_build 15 = .ok (.iconst 1, 1) := by decide +kernel
theorem dL_build_16 : decode cL_build 16 = .ok (.aload_n 1, 1) := by decide +kernel
theorem dL_build_17 : decode cL_build 17 = .ok (.bipush 10, 2) := by decide +kernel
theorem dL_build_19 : decode cL_build 19 = .ok (.iload_n 3, 1) := by decide +kernel
theorem dL_build_20 : decode cL_build 20 = .ok (.iadd, 1) := by decide +kernel
theorem dL_build_21 : decode cL_build 21 = .ok (.bipush 9, 2) := by decide +kernel
theorem dL_build_23 : decode cL_build 23 = .ok (.invokestatic 82, 3) := by decide +kernel
theorem dL_build_26 : decode cL_build 26 = .ok (.iadd, 1) := by decide +kernel
theorem dL_build_27 : decode cL_build 27 = .ok (.invokestatic 86, 3) := by decide +kernel
theorem dL_build_30 : decode cL_build 30 = .ok (.istore_n 2, 1) := by decide +kernel
theorem dL_build_31 : decode cL_build 31 = .ok (.iinc 3 1, 3) := by decide +kernel
theorem dL_build_34 : decode cL_build 34 = .ok (.goto (-32), 3) := by decide +kernel
theorem dL_build_37 : decode cL_build 37 = .ok (.iconst 0, 1) := by decide +kernel
theorem dL_build_38 : decode cL_build 38 = .ok (.istore_n 3, 1) := by decide +kernel
theorem dL_build_39 : decode cL_build 39 = .ok (.iload_n 3, 1) := by decide +kernel
theorem dL_build_40 : decode cL_build 40 = .ok (.iconst 5, 1) := by decide +kernel
theorem dL_build_41 : decode cL_build 41 = .ok (.if_icmp .ge 36, 3) := by decide +kernel
theorem dL_build_44 : decode cL_build 44 = .ok (.aload_n 0, 1) := by decide +kernel
theorem dL_build_45 : decode cL_build 45 = .ok (.aload_n 1, 1) := by decide +kernel
theorem dL_build_46 : decode cL_build 46 = .ok (.bipush 20, 2) := by decide +kernel
theorem dL_build_48 : decode cL_build 48 = .ok (.iload_n 3, 1) := by decide +kernel
theorem dL_build_49 : decode cL_build 49 = .ok (.iadd, 1) := by decide +kernel
theorem dL_build_50 : decode cL_build 50 = .ok (.bipush 60, 2) := by decide +kernel
theorem dL_build_52 : decode cL_build 52 = .ok (.invokestatic 82, 3) := by decide +kernel
theorem dL_build_55 : decode cL_build 55 = .ok (.iconst 1, 1) := by decide +kernel
theorem dL_build_56 : decode cL_build 56 = .ok (.aload_n 1, 1) := by decide +kernel
theorem dL_build_57 : decode cL_build 57 = .ok (.bipush 30, 2) := by decide +kernel
theorem dL_build_59 : decode cL_build 59 = .ok (.iload_n 3, 1) := by decide +kernel
theorem dL_build_60 : decode cL_build 60 = .ok (.iadd, 1) := by decide +kernel
theorem dL_build_61 : decode cL_build 61 = .ok (.bipush 9, 2) := by decide +kernel
theorem dL_build_63 : decode cL_build 63 = .ok (.invokestatic 82, 3) := by decide +kernel
theorem dL_build_66 : decode cL_build 66 = .ok (.iadd, 1) := by decide +kernel
theorem dL_build_67 : decode cL_build 67 = .ok (.invokestatic 89, 3) := by decide +kernel
theorem dL_build_70 : decode cL_build 70 = .ok (.istore_n 2, 1) := by decide +kernel
theorem dL_build_71 : decode cL_build 71 = .ok (.iinc 3 1, 3) := by decide +kernel
theorem dL_build_74 : decode cL_build 74 = .ok (.goto (-35), 3) := by decide +kernel
theorem dL_build_77 : decode cL_build 77 = .ok (.iconst 0, 1) := by decide +kernel
theorem dL_build_78 : decode cL_build 78 = .ok (.istore_n 3, 1) := by decide +kernel
theorem dL_build_79 : decode cL_build 79 = .ok (.iload_n 3, 1) := by decide +kernel
theorem dL_build_80 : decode cL_build 80 = .ok (.iconst 3, 1) := by decide +kernel
theorem dL_build_81 : decode cL_build 81 = .ok (.if_icmp .ge 24, 3) := by decide +kernel
theorem dL_build_84 : decode cL_build 84 = .ok (.aload_n 0, 1) := by decide +kernel
theorem dL_build_85 : decode cL_build 85 = .ok (.aload_n 1, 1) := by decide +kernel
theorem dL_build_86 : decode cL_build 86 = .ok (.bipush 40, 2) := by decide +kernel
theorem dL_build_88 : decode cL_build 88 = .ok (.iload_n 3, 1) := by decide +kernel
theorem dL_build_89 : decode cL_build 89 = .ok (.iadd, 1) := by decide +kernel
theorem dL_build_90 : decode cL_build 90 = .ok (.bipush 60, 2) := by decide +kernel
theorem dL_build_92 : decode cL_build 92 = .ok (.invokestatic 82, 3) := by decide +kernel
theorem dL_build_95 : decode cL_build 95 = .ok (.invokestatic 91, 3) := by decide +kernel
theorem dL_build_98 : decode cL_build 98 = .ok (.istore_n 2, 1) := by decide +kernel
theorem dL_build_99 : decode cL_build 99 = .ok (.iinc 3 1, 3) := by decide +kernel
theorem dL_build_102 : decode cL_build 102 = .ok (.goto (-23), 3) := by decide +kernel
theorem dL_build_105 : decode cL_build 105 = .ok (.iconst 0, 1) := by decide +kernel
theorem dL_build_106 : decode cL_build 106 = .ok (.istore_n 3, 1) := by decide +kernel
theorem dL_build_107 : decode cL_build 107 = .ok (.iload_n 3, 1) := by decide +kernel
theorem dL_build_108 : decode cL_build 108 = .ok (.bipush 14, 2) := by decide +kernel
theorem dL_build_110 : decode cL_build 110 = .ok (.if_icmp .ge 20, 3) := by decide +kernel
theorem dL_build_113 : decode cL_build 113 = .ok (.aload_n 0, 1) := by decide +kernel
theorem dL_build_114 : decode cL_build 114 = .ok (.aload_n 1, 1) := by decide +kernel
theorem dL_build_115 : decode cL_build 115 = .ok (.bipush 44, 2) := by decide +kernel
theorem dL_build_117 : decode cL_build 117 = .ok (.iconst 4, 1) := by decide +kernel
theorem dL_build_118 : decode cL_build 118 = .ok (.iload_n 3, 1) := by decide +kernel
theorem dL_build_119 : decode cL_build 119 = .ok (.imul, 1) := by decide +kernel
theorem dL_build_120 : decode cL_build 120 = .ok (.iadd, 1) := by decide +kernel
theorem dL_build_121 : decode cL_build 121 = .ok (.invokestatic 94, 3) := by decide +kernel
theorem dL_build_124 : decode cL_build 124 = .ok (.iinc 3 1, 3) := by decide +kernel
theorem dL_build_127 : decode cL_build 127 = .ok (.goto (-20), 3) := by decide +kernel
theorem dL_build_130 : decode cL_build 130 = .ok (.return_, 1) := by decide +kernel
theorem dL_acts_0 : decode cL_acts 0 = .ok (.aload_n 1, 1) := by decide +kernel
theorem dL_acts_1 : decode cL_acts 1 = .ok (.iload_n 2, 1) := by decide +kernel
theorem dL_acts_2 : decode cL_acts 2 = .ok (.iconst 1, 1) := by decide +kernel
theorem dL_acts_3 : decode cL_acts 3 = .ok (.iadd, 1) := by decide +kernel
theorem dL_acts_4 : decode cL_acts 4 = .ok (.bipush 60, 2) := by decide +kernel
theorem dL_acts_6 : decode cL_acts 6 = .ok (.invokestatic 82, 3) := by decide +kernel
theorem dL_acts_9 : decode cL_acts 9 = .ok (.istore_n 3, 1) := by decide +kernel
theorem dL_acts_10 : decode cL_acts 10 = .ok (.aload_n 1, 1) := by decide +kernel
theorem dL_acts_11 : decode cL_acts 11 = .ok (.iload_n 2, 1) := by decide +kernel
theorem dL_acts_12 : decode cL_acts 12 = .ok (.iconst 2, 1) := by decide +kernel
theorem dL_acts_13 : decode cL_acts 13 = .ok (.iadd, 1) := by decide +kernel
theorem dL_acts_14 : decode cL_acts 14 = .ok (.bipush 9, 2) := by decide +kernel
theorem dL_acts_16 : decode cL_acts 16 = .ok (.invokestatic 82, 3) := by decide +kernel
theorem dL_acts_19 : decode cL_acts 19 = .ok (.istore 4, 2) := by decide +kernel
theorem dL_acts_21 : decode cL_acts 21 = .ok (.aload_n 0, 1) := by decide +kernel
theorem dL_acts_22 : decode cL_acts 22 = .ok (.invokevirtual 98, 3) := by decide +kernel
theorem dL_acts_25 : decode cL_acts 25 = .ok (.istore 5, 2) := by decide +kernel
theorem dL_acts_27 : decode cL_acts 27 = .ok (.iload 5, 2) := by decide +kernel
theorem dL_acts_29 : decode cL_acts 29 = .ok (.ifCond .ne 7, 3) := by decide +kernel
theorem dL_acts_32 : decode cL_acts 32 = .ok (.iconst 0, 1) := by decide +kernel
theorem dL_acts_33 : decode cL_acts 33 = .ok (.goto 16, 3) := by decide +kernel
theorem dL_acts_36 : decode cL_acts 36 = .ok (.aload_n 0, 1) := by decide +kernel
theorem dL_acts_37 : decode cL_acts 37 = .ok (.aload_n 1, 1) := by decide +kernel
theorem dL_acts_38 : decode cL_acts 38 = .ok (.iload_n 2, 1) := by decide +kernel
theorem dL_acts_39 : decode cL_acts 39 = .ok (.iconst 3, 1) := by decide +kernel
theorem dL_acts_40 : decode cL_acts 40 = .ok (.iadd, 1) := by decide +kernel
theorem dL_acts_41 : decode cL_acts 41 = .ok (.iload 5, 2) := by decide +kernel
theorem dL_acts_43 : decode cL_acts 43 = .ok (.invokestatic 82, 3) := by decide +kernel
theorem dL_acts_46 : decode cL_acts 46 = .ok (.invokevirtual 72, 3) := by decide +kernel
theorem dL_acts_49 : decode cL_acts 49 = .ok (.istore 6, 2) := by decide +kernel
theorem dL_acts_51 : decode cL_acts 51 = .ok (.aload_n 1, 1) := by decide +kernel
theorem dL_acts_52 : decode cL_acts 52 = .ok (.iload_n 2, 1) := by decide +kernel
theorem dL_acts_53 : decode cL_acts 53 = .ok (.bipush 14, 2) := by decide +kernel
theorem dL_acts_55 : decode cL_acts 55 = .ok (.invokestatic 82, 3) := by decide +kernel
theorem dL_acts_58 : decode cL_acts 58 = .ok (.tableswitch 186 0 8 #[50, 75, 75, 100, 121, 121, 133, 161, 171], 50) := by decide +kernel
theorem dL_acts_108 : decode cL_acts 108 = .ok (.iload 5, 2) := by decide +kernel
theorem dL_acts_110 : decode cL_acts 110 = .ok (.bipush 9, 2) := by decide +kernel
theorem dL_acts_112 : decode cL_acts 112 = .ok (.if_icmp .ge 15, 3) := by decide +kernel
theorem dL_acts_115 : decode cL_acts 115 = .ok (.aload_n 0, 1) := by decide +kernel
theorem dL_acts_116 : decode cL_acts 116 = .ok (.iload_n 3, 1) := by decide +kernel
theorem dL_acts_117 : decode cL_acts 117 = .ok (.iconst 1, 1) := by decide +kernel
theorem dL_acts_118 : decode cL_acts 118 = .ok (.iload 4, 2) := by decide +kernel
theorem dL_acts_120 : decode cL_acts 120 = .ok (.iadd, 1) := by decide +kernel
theorem dL_acts_121 : decode cL_acts 121 = .ok (.invokestatic 86, 3) := by decide +kernel
theorem dL_acts_124 : decode cL_acts 124 = .ok (.goto 4, 3) := by decide +kernel
theorem dL_acts_127 : decode cL_acts 127 = .ok (.iconst 0, 1) := by decide +kernel
theorem dL_acts_128 : decode cL_acts 128 = .ok (.istore 7, 2) := by decide +kernel
theorem dL_acts_130 : decode cL_acts 130 = .ok (.goto 137, 3) := by decide +kernel
theorem dL_acts_133 : decode cL_acts 133 = .ok (.iload 5, 2) := by decide +kernel
theorem dL_acts_135 : decode cL_acts 135 = .ok (.bipush 9, 2) := by decide +kernel
theorem dL_acts_137 : decode cL_acts 137 = .ok (.if_icmp .ge 15, 3) := by decide +kernel
theorem dL_acts_140 : decode cL_acts 140 = .ok (.aload_n 0, 1) := by decide +kernel
theorem dL_acts_141 : decode cL_acts 141 = .ok (.iload_n 3, 1) := by decide +kernel
theorem dL_acts_142 : decode cL_acts 142 = .ok (.iconst 1, 1) := by decide +kernel
theorem dL_acts_143 : decode cL_acts 143 = .ok (.iload 4, 2) := by decide +kernel
theorem dL_acts_145 : decode cL_acts 145 = .ok (.iadd, 1) := by decide +kernel
theorem dL_acts_146 : decode cL_acts 146 = .ok (.invokestatic 89, 3) := by decide +kernel
theorem dL_acts_149 : decode cL_acts 149 = .ok (.goto 4, 3) := by decide +kernel
theorem dL_acts_152 : decode cL_acts 152 = .ok (.iconst 0, 1) := by decide +kernel
theorem dL_acts_153 : decode cL_acts 153 = .ok (.istore 7, 2) := by decide +kernel
theorem dL_acts_155 : decode cL_acts 155 = .ok (.goto 112, 3) := by decide +kernel
theorem dL_acts_158 : decode cL_acts 158 = .ok (.iload 5, 2) := by decide +kernel
theorem dL_acts_160 : decode cL_acts 160 = .ok (.iconst 3, 1) := by decide +kernel
theorem dL_acts_161 : decode cL_acts 161 = .ok (.if_icmp .le 12, 3) := by decide +kernel
theorem dL_acts_164 : decode cL_acts 164 = .ok (.aload_n 0, 1) := by decide +kernel
theorem dL_acts_165 : decode cL_acts 165 = .ok (.iload 6, 2) := by decide +kernel
theorem dL_acts_167 : decode cL_acts 167 = .ok (.invokestatic 101, 3) := by decide +kernel
theorem dL_acts_170 : decode cL_acts 170 = .ok (.goto 4, 3) := by decide +kernel
theorem dL_acts_173 : decode cL_acts 173 = .ok (.iconst 0, 1) := by decide +kernel
theorem dL_acts_174 : decode cL_acts 174 = .ok (.istore 7, 2) := by decide +kernel
theorem dL_acts_176 : decode cL_acts 176 = .ok (.goto 91, 3) := by decide +kernel
theorem dL_acts_179 : decode cL_acts 179 = .ok (.aload_n 0, 1) := by decide +kernel
theorem dL_acts_180 : decode cL_acts 180 = .ok (.iload 6, 2) := by decide +kernel
theorem dL_acts_182 : decode cL_acts 182 = .ok (.iload_n 3, 1) := by decide +kernel
theorem dL_acts_183 : decode cL_acts 183 = .ok (.invokestatic 103, 3) := by decide +kernel
theorem dL_acts_186 : decode cL_acts 186 = .ok (.istore 7, 2) := by decide +kernel
theorem dL_acts_188 : decode cL_acts 188 = .ok (.goto 79, 3) := by decide +kernel
theorem dL_acts_191 : decode cL_acts 191 = .ok (.iload 5, 2) := by decide +kernel
theorem dL_acts_193 : decode cL_acts 193 = .ok (.ifCond .le 20, 3) := by decide +kernel
theorem dL_acts_196 : decode cL_acts 196 = .ok (.aload_n 0, 1) := by decide +kernel
theorem dL_acts_197 : decode cL_acts 197 = .ok (.iload 6, 2) := by decide +kernel
theorem dL_acts_199 : decode cL_acts 199 = .ok (.aload_n 0, 1) := by decide +kernel
theorem dL_acts_200 : decode cL_acts 200 = .ok (.iload_n 3, 1) := by decide +kernel
theorem dL_acts_201 : decode cL_acts 201 = .ok (.iload 5, 2) := by decide +kernel
theorem dL_acts_203 : decode cL_acts 203 = .ok (.irem, 1) := by decide +kernel
theorem dL_acts_204 : decode cL_acts 204 = .ok (.invokevirtual 75, 3) := by decide +kernel
theorem dL_acts_207 : decode cL_acts 207 = .ok (.invokestatic 105, 3) := by decide +kernel
theorem dL_acts_210 : decode cL_acts 210 = .ok (.goto 4, 3) := by decide +kernel
theorem dL_acts_213 : decode cL_acts 213 = .ok (.iconst 0, 1) := by decide +kernel
theorem dL_acts_214 : decode cL_acts 214 = .ok (.istore 7, 2) := by decide +kernel
theorem dL_acts_216 : decode cL_acts 216 = .ok (.goto 51, 3) := by decide +kernel
theorem dL_acts_219 : decode cL_acts 219 = .ok (.aload_n 0, 1) := by decide +kernel
theorem dL_acts_220 : decode cL_acts 220 = .ok (.iload_n 3, 1) := by decide +kernel
theorem dL_acts_221 : decode cL_acts 221 = .ok (.invokestatic 91, 3) := by decide +kernel
theorem dL_acts_224 : decode cL_acts 224 = .ok (.istore 7, 2) := by decide +kernel
theorem dL_acts_226 : decode cL_acts 226 = .ok (.goto 41, 3) := by decide +kernel
theorem dL_acts_229 : decode cL_acts 229 = .ok (.aload_n 0, 1) := by decide +kernel
theorem dL_acts_230 : decode cL_acts 230 = .ok (.iload_n 3, 1) := by decide +kernel
theorem dL_acts_231 : decode cL_acts 231 = .ok (.aload_n 0, 1) := by decide +kernel
theorem dL_acts_232 : decode cL_acts 232 = .ok (.invokevirtual 107, 3) := by decide +kernel
theorem dL_acts_235 : decode cL_acts 235 = .ok (.irem, 1) := by decide +kernel
theorem dL_acts_236 : decode cL_acts 236 = .ok (.invokestatic 110, 3) := by decide +kernel
theorem dL_acts_239 : decode cL_acts 239 = .ok (.istore 7, 2) := by decide +kernel
theorem dL_acts_241 : decode cL_acts 241 = .ok (.goto 26, 3) := by decide +kernel
theorem dL_acts_244 : decode cL_acts 244 = .ok (.aload_n 0, 1) := by decide +kernel
theorem dL_acts_245 : decode cL_acts 245 = .ok (.iconst 1, 1) := by decide +kernel
theorem dL_acts_246 : decode cL_acts 246 = .ok (.iload_n 3, 1) := by decide +kernel
theorem dL_acts_247 : decode cL_acts 247 = .ok (.bipush 20, 2) := by decide +kernel
theorem dL_acts_249 : decode cL_acts 249 = .ok (.irem, 1) := by decide +kernel
theorem dL_acts_250 : decode cL_acts 250 = .ok (.iadd, 1) := by decide +kernel
theorem dL_acts_251 : decode cL_acts 251 = .ok (.iload 4, 2) := by decide +kernel
theorem dL_acts_253 : decode cL_acts 253 = .ok (.iconst 5, 1) := by decide +kernel
theorem dL_acts_254 : decode cL_acts 254 = .ok (.if_icmp .ge 7, 3) := by decide +kernel
theorem dL_acts_257 : decode cL_acts 257 = .ok (.iconst 1, 1) := by decide +kernel
theorem dL_acts_258 : decode cL_acts 258 = .ok (.goto 4, 3) := by decide +kernel
theorem dL_acts_261 : decode cL_acts 261 = .ok (.iconst 0, 1) := by decide +kernel
theorem dL_acts_262 : decode cL_acts 262 = .ok (.invokestatic 113, 3) := by decide +kernel
theorem dL_acts_265 : decode cL_acts 265 = .ok (.istore 7, 2) := by decide +kernel
theorem dL_acts_267 : decode cL_acts 267 = .ok (.return_, 1) := by decide +kernel
theorem dL_isLine_0 : decode cL_isLine 0 = .ok (.iload_n 1, 1) := by decide +kernel
theorem dL_isLine_1 : decode cL_isLine 1 = .ok (.aload_n 2, 1) := by decide +kernel
theorem dL_isLine_2 : decode cL_isLine 2 = .ok (.invokevirtual 116, 3) := by decide +kernel
theorem dL_isLine_5 : decode cL_isLine 5 = .ok (.if_icmp .eq 5, 3) := by decide +kernel
theorem dL_isLine_8 : decode cL_isLine 8 = .ok (.iconst 0, 1) := by decide +kernel
theorem dL_isLine_9 : decode cL_isLine 9 = .ok (.ireturn, 1) := by decide +kernel
theorem dL_isLine_10 : decode cL_isLine 10 = .ok (.iconst 0, 1) := by decide +kernel
theorem dL_isLine_11 : decode cL_isLine 11 = .ok (.istore_n 3, 1) := by decide +kernel
theorem dL_isLine_12 : decode cL_isLine 12 = .ok (.iload_n 3, 1) := by decide +kernel
theorem dL_isLine_13 : decode cL_isLine 13 = .ok (.iload_n 1, 1) := by decide +kernel
theorem dL_isLine_14 : decode cL_isLine 14 = .ok (.if_icmp .ge 24, 3) := by decide +kernel
theorem dL_isLine_17 : decode cL_isLine 17 = .ok (.aload_n 0, 1) := by decide +kernel
theorem dL_isLine_18 : decode cL_isLine 18 = .ok (.iload_n 3, 1) := by decide +kernel
theorem dL_isLine_19 : decode cL_isLine 19 = .ok (.invokevirtual 121, 3) := by decide +kernel
theorem dL_isLine_22 : decode cL_isLine 22 = .ok (.aload_n 2, 1) := by decide +kernel
theorem dL_isLine_23 : decode cL_isLine 23 = .ok (.iload_n 3, 1) := by decide +kernel
theorem dL_isLine_24 : decode cL_isLine 24 = .ok (.invokevirtual 125, 3) := by decide +kernel
theorem dL_isLine_27 : decode cL_isLine 27 = .ok (.if_icmp .eq 5, 3) := by decide +kernel
theorem dL_isLine_30 : decode cL_isLine 30 = .ok (.iconst 0, 1) := by decide +kernel
theorem dL_isLine_31 : decode cL_isLine 31 = .ok (.ireturn, 1) := by decide +kernel
theorem dL_isLine_32 : decode cL_isLine 32 = .ok (.iinc 3 1, 3) := by decide +kernel
theorem dL_isLine_35 : decode cL_isLine 35 = .ok (.goto (-23), 3) := by decide +kernel
theorem dL_isLine_38 : decode cL_isLine 38 = .ok (.iconst 1, 1) := by decide +kernel
theorem dL_isLine_39 : decode cL_isLine 39 = .ok (.ireturn, 1) := by decide +kernel
theorem k943 : Cond.classLink "BookmarkManagerLaw" 19 "java/lang/IndexOutOfBoundsException" ∈ wU := mU 943 (by decide +kernel) (by decide +kernel)
theorem k946 : Cond.classLink "BookmarkManagerLaw" 52 "java/util/NoSuchElementException" ∈ wU := mU 946 (by decide +kernel) (by decide +kernel)
theorem k1028 : Cond.classLink "BookmarkManagerLaw" 21 "java/lang/IllegalArgumentException" ∈ wU := mU 1028 (by decide +kernel) (by decide +kernel)
theorem k1029 : Cond.classLink "BookmarkManagerLaw" 23 "java/lang/UnsupportedOperationException" ∈ wU := mU 1029 (by decide +kernel) (by decide +kernel)
theorem k1022 : Cond.methodLink "BookmarkManagerLaw" 7 yL_cell ∈ wU := mU 1022 (by decide +kernel) (by decide +kernel)
theorem k12 : Cond.initialized "BookmarkManagerLaw" ∈ wU := mU 12 (by decide +kernel) (by decide +kernel)
theorem k1024 : Cond.code yL_cell method_2_code 2 (some .int) ∈ wU := mU 1024 (by decide +kernel) (by decide +kernel)
theorem k1023 : Cond.static yL_cell ∈ wU := mU 1023 (by decide +kernel) (by decide +kernel)
theorem k1030 : Cond.methodLink "BookmarkManagerLaw" 13 yX3_addRibbon ∈ wU := mU 1030 (by decide +kernel) (by decide +kernel)
theorem k1031 : Cond.instanceMethod yX3_addRibbon ∈ wU := mU 1031 (by decide +kernel) (by decide +kernel)
theorem k1032 : Cond.selects "BookmarkManager" yX3_addRibbon yX3_addRibbon ∈ wU := mU 1032 (by decide +kernel) (by decide +kernel)
theorem k1033 : Cond.code yX3_addRibbon prog_1_method_2_code 3 (some .int) ∈ wU := mU 1033 (by decide +kernel) (by decide +kernel)
theorem k1172 : Cond.methodLink "BookmarkManagerLaw" 25 yX3_rejectionReason ∈ wU := mU 1172 (by decide +kernel) (by decide +kernel)
theorem k1173 : Cond.instanceMethod yX3_rejectionReason ∈ wU := mU 1173 (by decide +kernel) (by decide +kernel)
theorem k1174 : Cond.selects "BookmarkManager" yX3_rejectionReason yX3_rejectionReason ∈ wU := mU 1174 (by decide +kernel) (by decide +kernel)
theorem k1175 : Cond.code yX3_rejectionReason prog_1_method_56_code 1 (some .int) ∈ wU := mU 1175 (by decide +kernel) (by decide +kernel)
theorem k1184 : Cond.methodLink "BookmarkManagerLaw" 29 yX3_addDogEar ∈ wU := mU 1184 (by decide +kernel) (by decide +kernel)
theorem k1185 : Cond.instanceMethod yX3_addDogEar ∈ wU := mU 1185 (by decide +kernel) (by decide +kernel)
theorem k1186 : Cond.selects "BookmarkManager" yX3_addDogEar yX3_addDogEar ∈ wU := mU 1186 (by decide +kernel) (by decide +kernel)
theorem k1187 : Cond.code yX3_addDogEar prog_1_method_3_code 3 (some .int) ∈ wU := mU 1187 (by decide +kernel) (by decide +kernel)
theorem k1201 : Cond.methodLink "BookmarkManagerLaw" 32 yX3_removeMark ∈ wU := mU 1201 (by decide +kernel) (by decide +kernel)
theorem k1202 : Cond.instanceMethod yX3_removeMark ∈ wU := mU 1202 (by decide +kernel) (by decide +kernel)
theorem k1203 : Cond.selects "BookmarkManager" yX3_removeMark yX3_removeMark ∈ wU := mU 1203 (by decide +kernel) (by decide +kernel)
theorem k1204 : Cond.code yX3_removeMark prog_1_method_4_code 2 (some .int) ∈ wU := mU 1204 (by decide +kernel) (by decide +kernel)
theorem k1208 : Cond.methodLink "BookmarkManagerLaw" 36 yX3_moveRibbon ∈ wU := mU 1208 (by decide +kernel) (by decide +kernel)
theorem k1209 : Cond.instanceMethod yX3_moveRibbon ∈ wU := mU 1209 (by decide +kernel) (by decide +kernel)
theorem k1210 : Cond.selects "BookmarkManager" yX3_moveRibbon yX3_moveRibbon ∈ wU := mU 1210 (by decide +kernel) (by decide +kernel)
theorem k1211 : Cond.code yX3_moveRibbon prog_1_method_5_code 3 (some .int) ∈ wU := mU 1211 (by decide +kernel) (by decide +kernel)
theorem k1215 : Cond.methodLink "BookmarkManagerLaw" 39 yX3_swapSeats ∈ wU := mU 1215 (by decide +kernel) (by decide +kernel)
theorem k1216 : Cond.instanceMethod yX3_swapSeats ∈ wU := mU 1216 (by decide +kernel) (by decide +kernel)
theorem k1217 : Cond.selects "BookmarkManager" yX3_swapSeats yX3_swapSeats ∈ wU := mU 1217 (by decide +kernel) (by decide +kernel)
theorem k1218 : Cond.code yX3_swapSeats prog_1_method_6_code 3 (some .int) ∈ wU := mU 1218 (by decide +kernel) (by decide +kernel)
theorem k1191 : Cond.methodLink "BookmarkManagerLaw" 42 yX3_startChapter ∈ wU := mU 1191 (by decide +kernel) (by decide +kernel)
theorem k1192 : Cond.instanceMethod yX3_startChapter ∈ wU := mU 1192 (by decide +kernel) (by decide +kernel)
theorem k1193 : Cond.selects "BookmarkManager" yX3_startChapter yX3_startChapter ∈ wU := mU 1193 (by decide +kernel) (by decide +kernel)
theorem k1194 : Cond.code yX3_startChapter prog_1_method_19_code 2 (some .int) ∈ wU := mU 1194 (by decide +kernel) (by decide +kernel)
theorem k1229 : Cond.methodLink "BookmarkManagerLaw" 45 yX3_turnPages ∈ wU := mU 1229 (by decide +kernel) (by decide +kernel)
theorem k1230 : Cond.instanceMethod yX3_turnPages ∈ wU := mU 1230 (by decide +kernel) (by decide +kernel)
theorem k1231 : Cond.selects "BookmarkManager" yX3_turnPages yX3_turnPages ∈ wU := mU 1231 (by decide +kernel) (by decide +kernel)
theorem k1232 : Cond.code yX3_turnPages prog_1_method_31_code 3 (some .int) ∈ wU := mU 1232 (by decide +kernel) (by decide +kernel)
theorem k947 : Cond.methodLink "BookmarkManagerLaw" 49 yX3_seatOf ∈ wU := mU 947 (by decide +kernel) (by decide +kernel)
theorem k948 : Cond.instanceMethod yX3_seatOf ∈ wU := mU 948 (by decide +kernel) (by decide +kernel)
theorem k949 : Cond.selects "BookmarkManager" yX3_seatOf yX3_seatOf ∈ wU := mU 949 (by decide +kernel) (by decide +kernel)
theorem k950 : Cond.code yX3_seatOf prog_1_method_11_code 3 (some .int) ∈ wU := mU 950 (by decide +kernel) (by decide +kernel)
theorem k955 : Cond.methodLink "BookmarkManagerLaw" 54 yX3_ribbonIn ∈ wU := mU 955 (by decide +kernel) (by decide +kernel)
theorem k956 : Cond.instanceMethod yX3_ribbonIn ∈ wU := mU 956 (by decide +kernel) (by decide +kernel)
theorem k957 : Cond.selects "BookmarkManager" yX3_ribbonIn yX3_ribbonIn ∈ wU := mU 957 (by decide +kernel) (by decide +kernel)
theorem k958 : Cond.code yX3_ribbonIn prog_1_method_12_code 2 (some .int) ∈ wU := mU 958 (by decide +kernel) (by decide +kernel)
theorem k963 : Cond.methodLink "BookmarkManagerLaw" 57 yX3_markOn ∈ wU := mU 963 (by decide +kernel) (by decide +kernel)
theorem k964 : Cond.instanceMethod yX3_markOn ∈ wU := mU 964 (by decide +kernel) (by decide +kernel)
theorem k965 : Cond.selects "BookmarkManager" yX3_markOn yX3_markOn ∈ wU := mU 965 (by decide +kernel) (by decide +kernel)
theorem k966 : Cond.code yX3_markOn prog_1_method_14_code 2 (some .int) ∈ wU := mU 966 (by decide +kernel) (by decide +kernel)
theorem k970 : Cond.methodLink "BookmarkManagerLaw" 60 yX3_nextMark ∈ wU := mU 970 (by decide +kernel) (by decide +kernel)
theorem k971 : Cond.instanceMethod yX3_nextMark ∈ wU := mU 971 (by decide +kernel) (by decide +kernel)
theorem k972 : Cond.selects "BookmarkManager" yX3_nextMark yX3_nextMark ∈ wU := mU 972 (by decide +kernel) (by decide +kernel)
theorem k973 : Cond.code yX3_nextMark prog_1_method_15_code 2 (some .int) ∈ wU := mU 973 (by decide +kernel) (by decide +kernel)
theorem k981 : Cond.methodLink "BookmarkManagerLaw" 63 yX3_previousMark ∈ wU := mU 981 (by decide +kernel) (by decide +kernel)
theorem k982 : Cond.instanceMethod yX3_previousMark ∈ wU := mU 982 (by decide +kernel) (by decide +kernel)
theorem k983 : Cond.selects "BookmarkManager" yX3_previousMark yX3_previousMark ∈ wU := mU 983 (by decide +kernel) (by decide +kernel)
theorem k984 : Cond.code yX3_previousMark prog_1_method_16_code 2 (some .int) ∈ wU := mU 984 (by decide +kernel) (by decide +kernel)
theorem k992 : Cond.methodLink "BookmarkManagerLaw" 66 yX3_nearestMark ∈ wU := mU 992 (by decide +kernel) (by decide +kernel)
theorem k993 : Cond.instanceMethod yX3_nearestMark ∈ wU := mU 993 (by decide +kernel) (by decide +kernel)
theorem k994 : Cond.selects "BookmarkManager" yX3_nearestMark yX3_nearestMark ∈ wU := mU 994 (by decide +kernel) (by decide +kernel)
theorem k995 : Cond.code yX3_nearestMark prog_1_method_17_code 2 (some .int) ∈ wU := mU 995 (by decide +kernel) (by decide +kernel)
theorem k1005 : Cond.methodLink "BookmarkManagerLaw" 69 yX3_pagesToNextMark ∈ wU := mU 1005 (by decide +kernel) (by decide +kernel)
theorem k1006 : Cond.instanceMethod yX3_pagesToNextMark ∈ wU := mU 1006 (by decide +kernel) (by decide +kernel)
theorem k1007 : Cond.selects "BookmarkManager" yX3_pagesToNextMark yX3_pagesToNextMark ∈ wU := mU 1007 (by decide +kernel) (by decide +kernel)
theorem k1008 : Cond.code yX3_pagesToNextMark prog_1_method_33_code 2 (some .int) ∈ wU := mU 1008 (by decide +kernel) (by decide +kernel)
theorem k483 : Cond.methodLink "BookmarkManagerLaw" 72 yX3_markByPage ∈ wU := mU 483 (by decide +kernel) (by decide +kernel)
theorem k484 : Cond.instanceMethod yX3_markByPage ∈ wU := mU 484 (by decide +kernel) (by decide +kernel)
theorem k485 : Cond.selects "BookmarkManager" yX3_markByPage yX3_markByPage ∈ wU := mU 485 (by decide +kernel) (by decide +kernel)
theorem k486 : Cond.code yX3_markByPage prog_1_method_35_code 2 (some .int) ∈ wU := mU 486 (by decide +kernel) (by decide +kernel)
theorem k507 : Cond.methodLink "BookmarkManagerLaw" 75 yX3_markByWeight ∈ wU := mU 507 (by decide +kernel) (by decide +kernel)
theorem k508 : Cond.instanceMethod yX3_markByWeight ∈ wU := mU 508 (by decide +kernel) (by decide +kernel)
theorem k509 : Cond.selects "BookmarkManager" yX3_markByWeight yX3_markByWeight ∈ wU := mU 509 (by decide +kernel) (by decide +kernel)
theorem k510 : Cond.code yX3_markByWeight prog_1_method_36_code 2 (some .int) ∈ wU := mU 510 (by decide +kernel) (by decide +kernel)
theorem k1222 : Cond.methodLink "BookmarkManagerLaw" 78 yX3_voteToDissolve ∈ wU := mU 1222 (by decide +kernel) (by decide +kernel)
theorem k1223 : Cond.instanceMethod yX3_voteToDissolve ∈ wU := mU 1223 (by decide +kernel) (by decide +kernel)
theorem k1224 : Cond.selects "BookmarkManager" yX3_voteToDissolve yX3_voteToDissolve ∈ wU := mU 1224 (by decide +kernel) (by decide +kernel)
theorem k1225 : Cond.code yX3_voteToDissolve prog_1_method_20_code 2 (some .boolean) ∈ wU := mU 1225 (by decide +kernel) (by decide +kernel)
theorem k1019 : Cond.methodLink "BookmarkManagerLaw" 82 yL_some ∈ wU := mU 1019 (by decide +kernel) (by decide +kernel)
theorem k1021 : Cond.code yL_some method_3_code 3 (some .int) ∈ wU := mU 1021 (by decide +kernel) (by decide +kernel)
theorem k1020 : Cond.static yL_some ∈ wU := mU 1020 (by decide +kernel) (by decide +kernel)
theorem k1025 : Cond.methodLink "BookmarkManagerLaw" 86 yL_addRibbon ∈ wU := mU 1025 (by decide +kernel) (by decide +kernel)
theorem k1026 : Cond.static yL_addRibbon ∈ wU := mU 1026 (by decide +kernel) (by decide +kernel)
theorem k1027 : Cond.codeWith yL_addRibbon method_4_code 4 (some .int) [(0, 6, 7, 19), (0, 6, 12, 21), (0, 6, 17, 23)] ∈ wU := mU 1027 (by decide +kernel) (by decide +kernel)
theorem k1181 : Cond.methodLink "BookmarkManagerLaw" 89 yL_addDogEar ∈ wU := mU 1181 (by decide +kernel) (by decide +kernel)
theorem k1182 : Cond.static yL_addDogEar ∈ wU := mU 1182 (by decide +kernel) (by decide +kernel)
theorem k1183 : Cond.codeWith yL_addDogEar method_5_code 4 (some .int) [(0, 6, 7, 19), (0, 6, 12, 21), (0, 6, 17, 23)] ∈ wU := mU 1183 (by decide +kernel) (by decide +kernel)
theorem k1188 : Cond.methodLink "BookmarkManagerLaw" 91 yL_startChapter ∈ wU := mU 1188 (by decide +kernel) (by decide +kernel)
theorem k1189 : Cond.static yL_startChapter ∈ wU := mU 1189 (by decide +kernel) (by decide +kernel)
theorem k1190 : Cond.codeWith yL_startChapter method_9_code 3 (some .int) [(0, 5, 6, 19), (0, 5, 11, 23)] ∈ wU := mU 1190 (by decide +kernel) (by decide +kernel)
theorem k1195 : Cond.methodLink "BookmarkManagerLaw" 94 yL_acts ∈ wU := mU 1195 (by decide +kernel) (by decide +kernel)
theorem k1197 : Cond.code yL_acts method_22_code 8 none ∈ wU := mU 1197 (by decide +kernel) (by decide +kernel)
theorem k1196 : Cond.static yL_acts ∈ wU := mU 1196 (by decide +kernel) (by decide +kernel)
theorem k551 : Cond.methodLink "BookmarkManagerLaw" 98 yX3_markCount ∈ wU := mU 551 (by decide +kernel) (by decide +kernel)
theorem k552 : Cond.instanceMethod yX3_markCount ∈ wU := mU 552 (by decide +kernel) (by decide +kernel)
theorem k553 : Cond.selects "BookmarkManager" yX3_markCount yX3_markCount ∈ wU := mU 553 (by decide +kernel) (by decide +kernel)
theorem k554 : Cond.code yX3_markCount prog_1_method_41_code 1 (some .int) ∈ wU := mU 554 (by decide +kernel) (by decide +kernel)
theorem k1198 : Cond.methodLink "BookmarkManagerLaw" 101 yL_removeMark ∈ wU := mU 1198 (by decide +kernel) (by decide +kernel)
theorem k1199 : Cond.static yL_removeMark ∈ wU := mU 1199 (by decide +kernel) (by decide +kernel)
theorem k1200 : Cond.codeWith yL_removeMark method_6_code 3 (some .int) [(0, 5, 6, 19)] ∈ wU := mU 1200 (by decide +kernel) (by decide +kernel)
theorem k1205 : Cond.methodLink "BookmarkManagerLaw" 103 yL_moveRibbon ∈ wU := mU 1205 (by decide +kernel) (by decide +kernel)
theorem k1206 : Cond.static yL_moveRibbon ∈ wU := mU 1206 (by decide +kernel) (by decide +kernel)
theorem k1207 : Cond.codeWith yL_moveRibbon method_7_code 4 (some .int) [(0, 6, 7, 19), (0, 6, 12, 23)] ∈ wU := mU 1207 (by decide +kernel) (by decide +kernel)
theorem k1212 : Cond.methodLink "BookmarkManagerLaw" 105 yL_swapSeats ∈ wU := mU 1212 (by decide +kernel) (by decide +kernel)
theorem k1213 : Cond.static yL_swapSeats ∈ wU := mU 1213 (by decide +kernel) (by decide +kernel)
theorem k1214 : Cond.codeWith yL_swapSeats method_8_code 4 (some .int) [(0, 6, 7, 19), (0, 6, 12, 23)] ∈ wU := mU 1214 (by decide +kernel) (by decide +kernel)
theorem k563 : Cond.methodLink "BookmarkManagerLaw" 107 yX3_chapterCount ∈ wU := mU 563 (by decide +kernel) (by decide +kernel)
theorem k564 : Cond.instanceMethod yX3_chapterCount ∈ wU := mU 564 (by decide +kernel) (by decide +kernel)
theorem k565 : Cond.selects "BookmarkManager" yX3_chapterCount yX3_chapterCount ∈ wU := mU 565 (by decide +kernel) (by decide +kernel)
theorem k566 : Cond.code yX3_chapterCount prog_1_method_43_code 1 (some .int) ∈ wU := mU 566 (by decide +kernel) (by decide +kernel)
theorem k1219 : Cond.methodLink "BookmarkManagerLaw" 110 yL_vote ∈ wU := mU 1219 (by decide +kernel) (by decide +kernel)
theorem k1220 : Cond.static yL_vote ∈ wU := mU 1220 (by decide +kernel) (by decide +kernel)
theorem k1221 : Cond.codeWith yL_vote method_20_code 3 (some .int) [(0, 13, 14, 19), (0, 13, 19, 23)] ∈ wU := mU 1221 (by decide +kernel) (by decide +kernel)
theorem k1226 : Cond.methodLink "BookmarkManagerLaw" 113 yL_turnPages ∈ wU := mU 1226 (by decide +kernel) (by decide +kernel)
theorem k1227 : Cond.static yL_turnPages ∈ wU := mU 1227 (by decide +kernel) (by decide +kernel)
theorem k1228 : Cond.codeWith yL_turnPages method_10_code 4 (some .int) [(0, 6, 7, 21), (0, 6, 12, 23)] ∈ wU := mU 1228 (by decide +kernel) (by decide +kernel)
theorem k1236 : Cond.methodLink "BookmarkManagerLaw" 116 yJ0_length_8abf5 ∈ wU := mU 1236 (by decide +kernel) (by decide +kernel)
theorem k1237 : Cond.methodLink "BookmarkManagerLaw" 121 yX3_outputAt ∈ wU := mU 1237 (by decide +kernel) (by decide +kernel)
theorem k1238 : Cond.instanceMethod yX3_outputAt ∈ wU := mU 1238 (by decide +kernel) (by decide +kernel)
theorem k1239 : Cond.selects "BookmarkManager" yX3_outputAt yX3_outputAt ∈ wU := mU 1239 (by decide +kernel) (by decide +kernel)
theorem k1240 : Cond.code yX3_outputAt prog_1_method_52_code 2 (some .char) ∈ wU := mU 1240 (by decide +kernel) (by decide +kernel)
theorem k1252 : Cond.methodLink "BookmarkManagerLaw" 125 yJ0_charAt_5068e ∈ wU := mU 1252 (by decide +kernel) (by decide +kernel)
theorem k1253 : Cond.instanceMethod yJ0_charAt_5068e ∈ wU := mU 1253 (by decide +kernel) (by decide +kernel)
theorem k1254 : Cond.selects "java/lang/String" yJ0_charAt_5068e yJ0_charAt_5068e ∈ wU := mU 1254 (by decide +kernel) (by decide +kernel)
theorem k1255 : Cond.code yJ0_charAt_5068e prog_22_method_56_code 2 (some .char) ∈ wU := mU 1255 (by decide +kernel) (by decide +kernel)
theorem k1016 : Cond.methodLink "BookmarkManagerLaw" 129 yL_build ∈ wU := mU 1016 (by decide +kernel) (by decide +kernel)
theorem k1018 : Cond.code yL_build method_21_code 4 none ∈ wU := mU 1018 (by decide +kernel) (by decide +kernel)
theorem k1017 : Cond.static yL_build ∈ wU := mU 1017 (by decide +kernel) (by decide +kernel)
theorem k443 : Cond.methodLink "BookmarkManagerLaw" 133 yX3_currentPage ∈ wU := mU 443 (by decide +kernel) (by decide +kernel)
theorem k444 : Cond.instanceMethod yX3_currentPage ∈ wU := mU 444 (by decide +kernel) (by decide +kernel)
theorem k445 : Cond.selects "BookmarkManager" yX3_currentPage yX3_currentPage ∈ wU := mU 445 (by decide +kernel) (by decide +kernel)
theorem k446 : Cond.code yX3_currentPage prog_1_method_32_code 1 (some .int) ∈ wU := mU 446 (by decide +kernel) (by decide +kernel)
theorem k307 : Cond.methodLink "BookmarkManagerLaw" 136 yX3_pageOf ∈ wU := mU 307 (by decide +kernel) (by decide +kernel)
theorem k308 : Cond.instanceMethod yX3_pageOf ∈ wU := mU 308 (by decide +kernel) (by decide +kernel)
theorem k309 : Cond.selects "BookmarkManager" yX3_pageOf yX3_pageOf ∈ wU := mU 309 (by decide +kernel) (by decide +kernel)
theorem k310 : Cond.code yX3_pageOf prog_1_method_8_code 2 (some .int) ∈ wU := mU 310 (by decide +kernel) (by decide +kernel)
theorem k311 : Cond.methodLink "BookmarkManagerLaw" 139 yX3_weightOf ∈ wU := mU 311 (by decide +kernel) (by decide +kernel)
theorem k312 : Cond.instanceMethod yX3_weightOf ∈ wU := mU 312 (by decide +kernel) (by decide +kernel)
theorem k313 : Cond.selects "BookmarkManager" yX3_weightOf yX3_weightOf ∈ wU := mU 313 (by decide +kernel) (by decide +kernel)
theorem k314 : Cond.code yX3_weightOf prog_1_method_9_code 2 (some .int) ∈ wU := mU 314 (by decide +kernel) (by decide +kernel)
theorem k940 : Cond.methodLink "BookmarkManagerLaw" 142 yL_seatOf ∈ wU := mU 940 (by decide +kernel) (by decide +kernel)
theorem k941 : Cond.static yL_seatOf ∈ wU := mU 941 (by decide +kernel) (by decide +kernel)
theorem k942 : Cond.codeWith yL_seatOf method_11_code 3 (some .int) [(0, 5, 6, 19), (0, 5, 11, 52)] ∈ wU := mU 942 (by decide +kernel) (by decide +kernel)
theorem k220 : Cond.methodLink "BookmarkManagerLaw" 144 yX3_isRibbon ∈ wU := mU 220 (by decide +kernel) (by decide +kernel)
theorem k221 : Cond.instanceMethod yX3_isRibbon ∈ wU := mU 221 (by decide +kernel) (by decide +kernel)
theorem k222 : Cond.selects "BookmarkManager" yX3_isRibbon yX3_isRibbon ∈ wU := mU 222 (by decide +kernel) (by decide +kernel)
theorem k223 : Cond.code yX3_isRibbon prog_1_method_7_code 2 (some .boolean) ∈ wU := mU 223 (by decide +kernel) (by decide +kernel)
theorem k315 : Cond.methodLink "BookmarkManagerLaw" 147 yX3_wearOf ∈ wU := mU 315 (by decide +kernel) (by decide +kernel)
theorem k316 : Cond.instanceMethod yX3_wearOf ∈ wU := mU 316 (by decide +kernel) (by decide +kernel)
theorem k317 : Cond.selects "BookmarkManager" yX3_wearOf yX3_wearOf ∈ wU := mU 317 (by decide +kernel) (by decide +kernel)
theorem k318 : Cond.code yX3_wearOf prog_1_method_10_code 2 (some .int) ∈ wU := mU 318 (by decide +kernel) (by decide +kernel)
theorem k952 : Cond.methodLink "BookmarkManagerLaw" 150 yL_ribbonIn ∈ wU := mU 952 (by decide +kernel) (by decide +kernel)
theorem k953 : Cond.static yL_ribbonIn ∈ wU := mU 953 (by decide +kernel) (by decide +kernel)
theorem k954 : Cond.codeWith yL_ribbonIn method_12_code 3 (some .int) [(0, 5, 6, 19), (0, 5, 11, 52)] ∈ wU := mU 954 (by decide +kernel) (by decide +kernel)
theorem k344 : Cond.methodLink "BookmarkManagerLaw" 152 yX3_firstPage ∈ wU := mU 344 (by decide +kernel) (by decide +kernel)
theorem k345 : Cond.instanceMethod yX3_firstPage ∈ wU := mU 345 (by decide +kernel) (by decide +kernel)
theorem k346 : Cond.selects "BookmarkManager" yX3_firstPage yX3_firstPage ∈ wU := mU 346 (by decide +kernel) (by decide +kernel)
theorem k347 : Cond.code yX3_firstPage prog_1_method_21_code 2 (some .int) ∈ wU := mU 347 (by decide +kernel) (by decide +kernel)
theorem k357 : Cond.methodLink "BookmarkManagerLaw" 155 yX3_lastPage ∈ wU := mU 357 (by decide +kernel) (by decide +kernel)
theorem k358 : Cond.instanceMethod yX3_lastPage ∈ wU := mU 358 (by decide +kernel) (by decide +kernel)
theorem k359 : Cond.selects "BookmarkManager" yX3_lastPage yX3_lastPage ∈ wU := mU 359 (by decide +kernel) (by decide +kernel)
theorem k360 : Cond.code yX3_lastPage prog_1_method_22_code 2 (some .int) ∈ wU := mU 360 (by decide +kernel) (by decide +kernel)
theorem k1270 : Cond.methodLink "BookmarkManagerLaw" 161 yJ4_append_bf812 ∈ wU := mU 1270 (by decide +kernel) (by decide +kernel)
theorem k1269 : Cond.methodLink "BookmarkManagerLaw" 167 yJ4_append_15ec4 ∈ wU := mU 1269 (by decide +kernel) (by decide +kernel)
theorem k643 : Cond.instanceMethod yJ4_append_15ec4 ∈ wU := mU 643 (by decide +kernel) (by decide +kernel)
theorem k644 : Cond.selects "java/lang/StringBuilder" yJ4_append_15ec4 yJ4_append_15ec4 ∈ wU := mU 644 (by decide +kernel) (by decide +kernel)
theorem k645 : Cond.code yJ4_append_15ec4 prog_23_method_7_code 2 (some (.object "java/lang/StringBuilder")) ∈ wU := mU 645 (by decide +kernel) (by decide +kernel)
theorem k1271 : Cond.methodLink "BookmarkManagerLaw" 170 yJ4_toString_0e30d ∈ wU := mU 1271 (by decide +kernel) (by decide +kernel)
theorem k788 : Cond.instanceMethod yJ4_toString_0e30d ∈ wU := mU 788 (by decide +kernel) (by decide +kernel)
theorem k789 : Cond.selects "java/lang/StringBuilder" yJ4_toString_0e30d yJ4_toString_0e30d ∈ wU := mU 789 (by decide +kernel) (by decide +kernel)
theorem k790 : Cond.code yJ4_toString_0e30d prog_23_method_42_code 1 (some (.object "java/lang/String")) ∈ wU := mU 790 (by decide +kernel) (by decide +kernel)
theorem k336 : Cond.methodLink "BookmarkManagerLaw" 174 yX3_chapterOf ∈ wU := mU 336 (by decide +kernel) (by decide +kernel)
theorem k337 : Cond.instanceMethod yX3_chapterOf ∈ wU := mU 337 (by decide +kernel) (by decide +kernel)
theorem k338 : Cond.selects "BookmarkManager" yX3_chapterOf yX3_chapterOf ∈ wU := mU 338 (by decide +kernel) (by decide +kernel)
theorem k339 : Cond.code yX3_chapterOf prog_1_method_18_code 2 (some .int) ∈ wU := mU 339 (by decide +kernel) (by decide +kernel)
theorem k387 : Cond.methodLink "BookmarkManagerLaw" 183 yX3_chapterWeight ∈ wU := mU 387 (by decide +kernel) (by decide +kernel)
theorem k388 : Cond.instanceMethod yX3_chapterWeight ∈ wU := mU 388 (by decide +kernel) (by decide +kernel)
theorem k389 : Cond.selects "BookmarkManager" yX3_chapterWeight yX3_chapterWeight ∈ wU := mU 389 (by decide +kernel) (by decide +kernel)
theorem k390 : Cond.code yX3_chapterWeight prog_1_method_25_code 2 (some .int) ∈ wU := mU 390 (by decide +kernel) (by decide +kernel)
theorem k365 : Cond.methodLink "BookmarkManagerLaw" 186 yX3_heldPages ∈ wU := mU 365 (by decide +kernel) (by decide +kernel)
theorem k366 : Cond.instanceMethod yX3_heldPages ∈ wU := mU 366 (by decide +kernel) (by decide +kernel)
theorem k367 : Cond.selects "BookmarkManager" yX3_heldPages yX3_heldPages ∈ wU := mU 367 (by decide +kernel) (by decide +kernel)
theorem k368 : Cond.code yX3_heldPages prog_1_method_23_code 2 (some .int) ∈ wU := mU 368 (by decide +kernel) (by decide +kernel)
theorem k375 : Cond.methodLink "BookmarkManagerLaw" 189 yX3_heldPagesByMarks ∈ wU := mU 375 (by decide +kernel) (by decide +kernel)
theorem k376 : Cond.instanceMethod yX3_heldPagesByMarks ∈ wU := mU 376 (by decide +kernel) (by decide +kernel)
theorem k377 : Cond.selects "BookmarkManager" yX3_heldPagesByMarks yX3_heldPagesByMarks ∈ wU := mU 377 (by decide +kernel) (by decide +kernel)
theorem k378 : Cond.code yX3_heldPagesByMarks prog_1_method_24_code 2 (some .int) ∈ wU := mU 378 (by decide +kernel) (by decide +kernel)
theorem k395 : Cond.methodLink "BookmarkManagerLaw" 192 yX3_weightInFavour ∈ wU := mU 395 (by decide +kernel) (by decide +kernel)
theorem k396 : Cond.instanceMethod yX3_weightInFavour ∈ wU := mU 396 (by decide +kernel) (by decide +kernel)
theorem k397 : Cond.selects "BookmarkManager" yX3_weightInFavour yX3_weightInFavour ∈ wU := mU 397 (by decide +kernel) (by decide +kernel)
theorem k398 : Cond.code yX3_weightInFavour prog_1_method_26_code 2 (some .int) ∈ wU := mU 398 (by decide +kernel) (by decide +kernel)
theorem k404 : Cond.methodLink "BookmarkManagerLaw" 195 yX3_weightAgainst ∈ wU := mU 404 (by decide +kernel) (by decide +kernel)
theorem k405 : Cond.instanceMethod yX3_weightAgainst ∈ wU := mU 405 (by decide +kernel) (by decide +kernel)
theorem k406 : Cond.selects "BookmarkManager" yX3_weightAgainst yX3_weightAgainst ∈ wU := mU 406 (by decide +kernel) (by decide +kernel)
theorem k407 : Cond.code yX3_weightAgainst prog_1_method_27_code 2 (some .int) ∈ wU := mU 407 (by decide +kernel) (by decide +kernel)
theorem k412 : Cond.methodLink "BookmarkManagerLaw" 198 yX3_weightAgainstByTotal ∈ wU := mU 412 (by decide +kernel) (by decide +kernel)
theorem k413 : Cond.instanceMethod yX3_weightAgainstByTotal ∈ wU := mU 413 (by decide +kernel) (by decide +kernel)
theorem k414 : Cond.selects "BookmarkManager" yX3_weightAgainstByTotal yX3_weightAgainstByTotal ∈ wU := mU 414 (by decide +kernel) (by decide +kernel)
theorem k415 : Cond.code yX3_weightAgainstByTotal prog_1_method_28_code 2 (some .int) ∈ wU := mU 415 (by decide +kernel) (by decide +kernel)
theorem k425 : Cond.methodLink "BookmarkManagerLaw" 201 yX3_wouldDissolve ∈ wU := mU 425 (by decide +kernel) (by decide +kernel)
theorem k426 : Cond.instanceMethod yX3_wouldDissolve ∈ wU := mU 426 (by decide +kernel) (by decide +kernel)
theorem k427 : Cond.selects "BookmarkManager" yX3_wouldDissolve yX3_wouldDissolve ∈ wU := mU 427 (by decide +kernel) (by decide +kernel)
theorem k428 : Cond.code yX3_wouldDissolve prog_1_method_29_code 2 (some .boolean) ∈ wU := mU 428 (by decide +kernel) (by decide +kernel)
theorem k596 : Cond.methodLink "BookmarkManagerLaw" 204 yX3_heldShare ∈ wU := mU 596 (by decide +kernel) (by decide +kernel)
theorem k597 : Cond.instanceMethod yX3_heldShare ∈ wU := mU 597 (by decide +kernel) (by decide +kernel)
theorem k598 : Cond.selects "BookmarkManager" yX3_heldShare yX3_heldShare ∈ wU := mU 598 (by decide +kernel) (by decide +kernel)
theorem k599 : Cond.code yX3_heldShare prog_1_method_48_code 3 (some .float) ∈ wU := mU 599 (by decide +kernel) (by decide +kernel)
theorem k623 : Cond.methodLink "BookmarkManagerLaw" 208 yX3_writeChapter ∈ wU := mU 623 (by decide +kernel) (by decide +kernel)
theorem k624 : Cond.instanceMethod yX3_writeChapter ∈ wU := mU 624 (by decide +kernel) (by decide +kernel)
theorem k625 : Cond.selects "BookmarkManager" yX3_writeChapter yX3_writeChapter ∈ wU := mU 625 (by decide +kernel) (by decide +kernel)
theorem k626 : Cond.code yX3_writeChapter prog_1_method_50_code 3 (some .int) ∈ wU := mU 626 (by decide +kernel) (by decide +kernel)
theorem k1233 : Cond.methodLink "BookmarkManagerLaw" 211 yL_isLine ∈ wU := mU 1233 (by decide +kernel) (by decide +kernel)
theorem k1235 : Cond.code yL_isLine method_23_code 4 (some .boolean) ∈ wU := mU 1235 (by decide +kernel) (by decide +kernel)
theorem k1234 : Cond.static yL_isLine ∈ wU := mU 1234 (by decide +kernel) (by decide +kernel)
theorem k434 : Cond.methodLink "BookmarkManagerLaw" 215 yX3_heaviestChapter ∈ wU := mU 434 (by decide +kernel) (by decide +kernel)
theorem k435 : Cond.instanceMethod yX3_heaviestChapter ∈ wU := mU 435 (by decide +kernel) (by decide +kernel)
theorem k436 : Cond.selects "BookmarkManager" yX3_heaviestChapter yX3_heaviestChapter ∈ wU := mU 436 (by decide +kernel) (by decide +kernel)
theorem k437 : Cond.code yX3_heaviestChapter prog_1_method_30_code 1 (some .int) ∈ wU := mU 437 (by decide +kernel) (by decide +kernel)
theorem k967 : Cond.methodLink "BookmarkManagerLaw" 222 yL_nextMark ∈ wU := mU 967 (by decide +kernel) (by decide +kernel)
theorem k968 : Cond.static yL_nextMark ∈ wU := mU 968 (by decide +kernel) (by decide +kernel)
theorem k969 : Cond.codeWith yL_nextMark method_14_code 3 (some .int) [(0, 5, 6, 19), (0, 5, 11, 52)] ∈ wU := mU 969 (by decide +kernel) (by decide +kernel)
theorem k319 : Cond.methodLink "BookmarkManagerLaw" 224 yX3_isHeld ∈ wU := mU 319 (by decide +kernel) (by decide +kernel)
theorem k320 : Cond.instanceMethod yX3_isHeld ∈ wU := mU 320 (by decide +kernel) (by decide +kernel)
theorem k321 : Cond.selects "BookmarkManager" yX3_isHeld yX3_isHeld ∈ wU := mU 321 (by decide +kernel) (by decide +kernel)
theorem k322 : Cond.code yX3_isHeld prog_1_method_13_code 2 (some .boolean) ∈ wU := mU 322 (by decide +kernel) (by decide +kernel)
theorem k960 : Cond.methodLink "BookmarkManagerLaw" 227 yL_markOn ∈ wU := mU 960 (by decide +kernel) (by decide +kernel)
theorem k961 : Cond.static yL_markOn ∈ wU := mU 961 (by decide +kernel) (by decide +kernel)
theorem k962 : Cond.codeWith yL_markOn method_13_code 3 (some .int) [(0, 5, 6, 19), (0, 5, 11, 52)] ∈ wU := mU 962 (by decide +kernel) (by decide +kernel)
theorem k978 : Cond.methodLink "BookmarkManagerLaw" 229 yL_previousMark ∈ wU := mU 978 (by decide +kernel) (by decide +kernel)
theorem k979 : Cond.static yL_previousMark ∈ wU := mU 979 (by decide +kernel) (by decide +kernel)
theorem k980 : Cond.codeWith yL_previousMark method_15_code 3 (some .int) [(0, 5, 6, 19), (0, 5, 11, 52)] ∈ wU := mU 980 (by decide +kernel) (by decide +kernel)
theorem k989 : Cond.methodLink "BookmarkManagerLaw" 231 yL_nearestMark ∈ wU := mU 989 (by decide +kernel) (by decide +kernel)
theorem k990 : Cond.static yL_nearestMark ∈ wU := mU 990 (by decide +kernel) (by decide +kernel)
theorem k991 : Cond.codeWith yL_nearestMark method_16_code 3 (some .int) [(0, 5, 6, 19), (0, 5, 11, 52)] ∈ wU := mU 991 (by decide +kernel) (by decide +kernel)
theorem k931 : Cond.methodLink "BookmarkManagerLaw" 233 yX3_writeSeats ∈ wU := mU 931 (by decide +kernel) (by decide +kernel)
theorem k932 : Cond.instanceMethod yX3_writeSeats ∈ wU := mU 932 (by decide +kernel) (by decide +kernel)
theorem k933 : Cond.selects "BookmarkManager" yX3_writeSeats yX3_writeSeats ∈ wU := mU 933 (by decide +kernel) (by decide +kernel)
theorem k934 : Cond.code yX3_writeSeats prog_1_method_51_code 2 (some .int) ∈ wU := mU 934 (by decide +kernel) (by decide +kernel)
theorem k1002 : Cond.methodLink "BookmarkManagerLaw" 236 yL_pagesToNextMark ∈ wU := mU 1002 (by decide +kernel) (by decide +kernel)
theorem k1003 : Cond.static yL_pagesToNextMark ∈ wU := mU 1003 (by decide +kernel) (by decide +kernel)
theorem k1004 : Cond.codeWith yL_pagesToNextMark method_17_code 2 (some .int) [(0, 4, 5, 52)] ∈ wU := mU 1004 (by decide +kernel) (by decide +kernel)
theorem k447 : Cond.methodLink "BookmarkManagerLaw" 239 yX3_earsAtRisk ∈ wU := mU 447 (by decide +kernel) (by decide +kernel)
theorem k448 : Cond.instanceMethod yX3_earsAtRisk ∈ wU := mU 448 (by decide +kernel) (by decide +kernel)
theorem k449 : Cond.selects "BookmarkManager" yX3_earsAtRisk yX3_earsAtRisk ∈ wU := mU 449 (by decide +kernel) (by decide +kernel)
theorem k450 : Cond.code yX3_earsAtRisk prog_1_method_34_code 3 (some .int) ∈ wU := mU 450 (by decide +kernel) (by decide +kernel)
theorem k523 : Cond.methodLink "BookmarkManagerLaw" 242 yX3_span ∈ wU := mU 523 (by decide +kernel) (by decide +kernel)
theorem k524 : Cond.instanceMethod yX3_span ∈ wU := mU 524 (by decide +kernel) (by decide +kernel)
theorem k525 : Cond.selects "BookmarkManager" yX3_span yX3_span ∈ wU := mU 525 (by decide +kernel) (by decide +kernel)
theorem k526 : Cond.code yX3_span prog_1_method_37_code 1 (some .int) ∈ wU := mU 526 (by decide +kernel) (by decide +kernel)
theorem k531 : Cond.methodLink "BookmarkManagerLaw" 245 yX3_spanByEnds ∈ wU := mU 531 (by decide +kernel) (by decide +kernel)
theorem k532 : Cond.instanceMethod yX3_spanByEnds ∈ wU := mU 532 (by decide +kernel) (by decide +kernel)
theorem k533 : Cond.selects "BookmarkManager" yX3_spanByEnds yX3_spanByEnds ∈ wU := mU 533 (by decide +kernel) (by decide +kernel)
theorem k534 : Cond.code yX3_spanByEnds prog_1_method_38_code 1 (some .int) ∈ wU := mU 534 (by decide +kernel) (by decide +kernel)
theorem k555 : Cond.methodLink "BookmarkManagerLaw" 248 yX3_ribbonCount ∈ wU := mU 555 (by decide +kernel) (by decide +kernel)
theorem k556 : Cond.instanceMethod yX3_ribbonCount ∈ wU := mU 556 (by decide +kernel) (by decide +kernel)
theorem k557 : Cond.selects "BookmarkManager" yX3_ribbonCount yX3_ribbonCount ∈ wU := mU 557 (by decide +kernel) (by decide +kernel)
theorem k558 : Cond.code yX3_ribbonCount prog_1_method_42_code 1 (some .int) ∈ wU := mU 558 (by decide +kernel) (by decide +kernel)
theorem k539 : Cond.methodLink "BookmarkManagerLaw" 251 yX3_ribbonWeight ∈ wU := mU 539 (by decide +kernel) (by decide +kernel)
theorem k540 : Cond.instanceMethod yX3_ribbonWeight ∈ wU := mU 540 (by decide +kernel) (by decide +kernel)
theorem k541 : Cond.selects "BookmarkManager" yX3_ribbonWeight yX3_ribbonWeight ∈ wU := mU 541 (by decide +kernel) (by decide +kernel)
theorem k542 : Cond.code yX3_ribbonWeight prog_1_method_39_code 1 (some .int) ∈ wU := mU 542 (by decide +kernel) (by decide +kernel)
theorem k547 : Cond.methodLink "BookmarkManagerLaw" 254 yX3_dogEarWeight ∈ wU := mU 547 (by decide +kernel) (by decide +kernel)
theorem k548 : Cond.instanceMethod yX3_dogEarWeight ∈ wU := mU 548 (by decide +kernel) (by decide +kernel)
theorem k549 : Cond.selects "BookmarkManager" yX3_dogEarWeight yX3_dogEarWeight ∈ wU := mU 549 (by decide +kernel) (by decide +kernel)
theorem k550 : Cond.code yX3_dogEarWeight prog_1_method_40_code 1 (some .int) ∈ wU := mU 550 (by decide +kernel) (by decide +kernel)
theorem k575 : Cond.methodLink "BookmarkManagerLaw" 257 yX3_meanWeight ∈ wU := mU 575 (by decide +kernel) (by decide +kernel)
theorem k576 : Cond.instanceMethod yX3_meanWeight ∈ wU := mU 576 (by decide +kernel) (by decide +kernel)
theorem k577 : Cond.selects "BookmarkManager" yX3_meanWeight yX3_meanWeight ∈ wU := mU 577 (by decide +kernel) (by decide +kernel)
theorem k578 : Cond.code yX3_meanWeight prog_1_method_47_code 1 (some .double) ∈ wU := mU 578 (by decide +kernel) (by decide +kernel)
theorem k600 : Cond.methodLink "BookmarkManagerLaw" 261 yX3_isConsistent ∈ wU := mU 600 (by decide +kernel) (by decide +kernel)
theorem k601 : Cond.instanceMethod yX3_isConsistent ∈ wU := mU 601 (by decide +kernel) (by decide +kernel)
theorem k602 : Cond.selects "BookmarkManager" yX3_isConsistent yX3_isConsistent ∈ wU := mU 602 (by decide +kernel) (by decide +kernel)
theorem k603 : Cond.code yX3_isConsistent prog_1_method_49_code 1 (some .boolean) ∈ wU := mU 603 (by decide +kernel) (by decide +kernel)
theorem k571 : Cond.methodLink "BookmarkManagerLaw" 265 yX3_motionsCarried ∈ wU := mU 571 (by decide +kernel) (by decide +kernel)
theorem k572 : Cond.instanceMethod yX3_motionsCarried ∈ wU := mU 572 (by decide +kernel) (by decide +kernel)
theorem k573 : Cond.selects "BookmarkManager" yX3_motionsCarried yX3_motionsCarried ∈ wU := mU 573 (by decide +kernel) (by decide +kernel)
theorem k574 : Cond.code yX3_motionsCarried prog_1_method_45_code 1 (some .int) ∈ wU := mU 574 (by decide +kernel) (by decide +kernel)
theorem k567 : Cond.methodLink "BookmarkManagerLaw" 268 yX3_votesHeld ∈ wU := mU 567 (by decide +kernel) (by decide +kernel)
theorem k568 : Cond.instanceMethod yX3_votesHeld ∈ wU := mU 568 (by decide +kernel) (by decide +kernel)
theorem k569 : Cond.selects "BookmarkManager" yX3_votesHeld yX3_votesHeld ∈ wU := mU 569 (by decide +kernel) (by decide +kernel)
theorem k570 : Cond.code yX3_votesHeld prog_1_method_44_code 1 (some .int) ∈ wU := mU 570 (by decide +kernel) (by decide +kernel)
theorem k1010 : Cond.methodLink "BookmarkManagerLaw" 271 yL_markByPage ∈ wU := mU 1010 (by decide +kernel) (by decide +kernel)
theorem k1011 : Cond.static yL_markByPage ∈ wU := mU 1011 (by decide +kernel) (by decide +kernel)
theorem k1012 : Cond.codeWith yL_markByPage method_18_code 3 (some .int) [(0, 5, 6, 52)] ∈ wU := mU 1012 (by decide +kernel) (by decide +kernel)
theorem k1013 : Cond.methodLink "BookmarkManagerLaw" 273 yL_markByWeight ∈ wU := mU 1013 (by decide +kernel) (by decide +kernel)
theorem k1014 : Cond.static yL_markByWeight ∈ wU := mU 1014 (by decide +kernel) (by decide +kernel)
theorem k1015 : Cond.codeWith yL_markByWeight method_19_code 3 (some .int) [(0, 5, 6, 52)] ∈ wU := mU 1015 (by decide +kernel) (by decide +kernel)
theorem k41 : Cond.methodLink "BookmarkManagerLaw" 128 yX3_init ∈ wU := mU 41 (by decide +kernel) (by decide +kernel)
theorem k43 : Cond.code yX3_init prog_1_method_1_code 1 none ∈ wU := mU 43 (by decide +kernel) (by decide +kernel)
theorem k42 : Cond.instanceMethod yX3_init ∈ wU := mU 42 (by decide +kernel) (by decide +kernel)
theorem k1268 : Cond.methodLink "BookmarkManagerLaw" 160 yJ4_init_da8c8 ∈ wU := mU 1268 (by decide +kernel) (by decide +kernel)
theorem ml_L_13 : CLv RL 13 3 yX3_addRibbon cX3_addRibbon 3 (some .int) 2 := CLv.of TX3 11 ⟨by decide, by decide, by decide +kernel⟩ rfl k1030 k1031 k1032 q56 k1033
theorem ml_L_25 : CLv RL 25 3 yX3_rejectionReason cX3_rejectionReason 1 (some .int) 0 := CLv.of TX3 11 ⟨by decide, by decide, by decide +kernel⟩ rfl k1172 k1173 k1174 q56 k1175
theorem ml_L_29 : CLv RL 29 3 yX3_addDogEar cX3_addDogEar 3 (some .int) 2 := CLv.of TX3 11 ⟨by decide, by decide, by decide +kernel⟩ rfl k1184 k1185 k1186 q56 k1187
theorem ml_L_32 : CLv RL 32 3 yX3_removeMark cX3_removeMark 2 (some .int) 1 := CLv.of TX3 11 ⟨by decide, by decide, by decide +kernel⟩ rfl k1201 k1202 k1203 q56 k1204
theorem ml_L_36 : CLv RL 36 3 yX3_moveRibbon cX3_moveRibbon 3 (some .int) 2 := CLv.of TX3 11 ⟨by decide, by decide, by decide +kernel⟩ rfl k1208 k1209 k1210 q56 k1211
theorem ml_L_39 : CLv RL 39 3 yX3_swapSeats cX3_swapSeats 3 (some .int) 2 := CLv.of TX3 11 ⟨by decide, by decide, by decide +kernel⟩ rfl k1215 k1216 k1217 q56 k1218
theorem ml_L_42 : CLv RL 42 3 yX3_startChapter cX3_startChapter 2 (some .int) 1 := CLv.of TX3 11 ⟨by decide, by decide, by decide +kernel⟩ rfl k1191 k1192 k1193 q56 k1194
theorem ml_L_45 : CLv RL 45 3 yX3_turnPages cX3_turnPages 3 (some .int) 2 := CLv.of TX3 11 ⟨by decide, by decide, by decide +kernel⟩ rfl k1229 k1230 k1231 q56 k1232
theorem ml_L_49 : CLv RL 49 3 yX3_seatOf cX3_seatOf 3 (some .int) 1 := CLv.of TX3 11 ⟨by decide, by decide, by decide +kernel⟩ rfl k947 k948 k949 q56 k950
theorem ml_L_54 : CLv RL 54 3 yX3_ribbonIn cX3_ribbonIn 2 (some .int) 1 := CLv.of TX3 11 ⟨by decide, by decide, by decide +kernel⟩ rfl k955 k956 k957 q56 k958
theorem ml_L_57 : CLv RL 57 3 yX3_markOn cX3_markOn 2 (some .int) 1 := CLv.of TX3 11 ⟨by decide, by decide, by decide +kernel⟩ rfl k963 k964 k965 q56 k966
theorem ml_L_60 : CLv RL 60 3 yX3_nextMark cX3_nextMark 2 (some .int) 1 := CLv.of TX3 11 ⟨by decide, by decide, by decide +kernel⟩ rfl k970 k971 k972 q56 k973
theorem ml_L_63 : CLv RL 63 3 yX3_previousMark cX3_previousMark 2 (some .int) 1 := CLv.of TX3 11 ⟨by decide, by decide, by decide +kernel⟩ rfl k981 k982 k983 q56 k984
theorem ml_L_66 : CLv RL 66 3 yX3_nearestMark cX3_nearestMark 2 (some .int) 1 := CLv.of TX3 11 ⟨by decide, by decide, by decide +kernel⟩ rfl k992 k993 k994 q56 k995
theorem ml_L_69 : CLv RL 69 3 yX3_pagesToNextMark cX3_pagesToNextMark 2 (some .int) 0 := CLv.of TX3 11 ⟨by decide, by decide, by decide +kernel⟩ rfl k1005 k1006 k1007 q56 k1008
theorem ml_L_72 : CLv RL 72 3 yX3_markByPage cX3_markByPage 2 (some .int) 1 := CLv.of TX3 11 ⟨by decide, by decide, by decide +kernel⟩ rfl k483 k484 k485 q56 k486
theorem ml_L_75 : CLv RL 75 3 yX3_markByWeight cX3_markByWeight 2 (some .int) 1 := CLv.of TX3 11 ⟨by decide, by decide, by decide +kernel⟩ rfl k507 k508 k509 q56 k510
theorem ml_L_78 : CLv RL 78 3 yX3_voteToDissolve cX3_voteToDissolve 2 (some .boolean) 1 := CLv.of TX3 11 ⟨by decide, by decide, by decide +kernel⟩ rfl k1222 k1223 k1224 q56 k1225
theorem ml_L_98 : CLv RL 98 3 yX3_markCount cX3_markCount 1 (some .int) 0 := CLv.of TX3 11 ⟨by decide, by decide, by decide +kernel⟩ rfl k551 k552 k553 q56 k554
theorem ml_L_107 : CLv RL 107 3 yX3_chapterCount cX3_chapterCount 1 (some .int) 0 := CLv.of TX3 11 ⟨by decide, by decide, by decide +kernel⟩ rfl k563 k564 k565 q56 k566
theorem ml_L_116 : CLv RL 116 4 yJ0_length_8abf5 cJ0_length_8abf5 1 (some .int) 0 := CLv.of TJ0 4 ⟨by decide, by decide, by decide +kernel⟩ rfl k1236 k720 k721 q62 k722
theorem ml_L_121 : CLv RL 121 3 yX3_outputAt cX3_outputAt 2 (some .char) 1 := CLv.of TX3 11 ⟨by decide, by decide, by decide +kernel⟩ rfl k1237 k1238 k1239 q56 k1240
theorem ml_L_125 : CLv RL 125 4 yJ0_charAt_5068e cJ0_charAt_5068e 2 (some .char) 1 := CLv.of TJ0 4 ⟨by decide, by decide, by decide +kernel⟩ rfl k1252 k1253 k1254 q62 k1255
theorem ml_L_133 : CLv RL 133 3 yX3_currentPage cX3_currentPage 1 (some .int) 0 := CLv.of TX3 11 ⟨by decide, by decide, by decide +kernel⟩ rfl k443 k444 k445 q56 k446
theorem ml_L_136 : CLv RL 136 3 yX3_pageOf cX3_pageOf 2 (some .int) 1 := CLv.of TX3 11 ⟨by decide, by decide, by decide +kernel⟩ rfl k307 k308 k309 q56 k310
theorem ml_L_139 : CLv RL 139 3 yX3_weightOf cX3_weightOf 2 (some .int) 1 := CLv.of TX3 11 ⟨by decide, by decide, by decide +kernel⟩ rfl k311 k312 k313 q56 k314
theorem ml_L_144 : CLv RL 144 3 yX3_isRibbon cX3_isRibbon 2 (some .boolean) 1 := CLv.of TX3 11 ⟨by decide, by decide, by decide +kernel⟩ rfl k220 k221 k222 q56 k223
theorem ml_L_147 : CLv RL 147 3 yX3_wearOf cX3_wearOf 2 (some .int) 1 := CLv.of TX3 11 ⟨by decide, by decide, by decide +kernel⟩ rfl k315 k316 k317 q56 k318
theorem ml_L_152 : CLv RL 152 3 yX3_firstPage cX3_firstPage 2 (some .int) 1 := CLv.of TX3 11 ⟨by decide, by decide, by decide +kernel⟩ rfl k344 k345 k346 q56 k347
theorem ml_L_155 : CLv RL 155 3 yX3_lastPage cX3_lastPage 2 (some .int) 1 := CLv.of TX3 11 ⟨by decide, by decide, by decide +kernel⟩ rfl k357 k358 k359 q56 k360
theorem ml_L_161 : CLv RL 161 5 yJ4_append_bf812 cJ4_append_bf812 2 (some (.object "java/lang/StringBuilder")) 1 := CLv.of TJ4 4 ⟨by decide, by decide, by decide +kernel⟩ rfl k1270 q544 q545 q61 q546
theorem ml_L_167 : CLv RL 167 5 yJ4_append_15ec4 cJ4_append_15ec4 2 (some (.object "java/lang/StringBuilder")) 1 := CLv.of TJ4 4 ⟨by decide, by decide, by decide +kernel⟩ rfl k1269 k643 k644 q61 k645
theorem ml_L_170 : CLv RL 170 5 yJ4_toString_0e30d cJ4_toString_0e30d 1 (some (.object "java/lang/String")) 0 := CLv.of TJ4 4 ⟨by decide, by decide, by decide +kernel⟩ rfl k1271 k788 k789 q61 k790
theorem ml_L_174 : CLv RL 174 3 yX3_chapterOf cX3_chapterOf 2 (some .int) 1 := CLv.of TX3 11 ⟨by decide, by decide, by decide +kernel⟩ rfl k336 k337 k338 q56 k339
theorem ml_L_183 : CLv RL 183 3 yX3_chapterWeight cX3_chapterWeight 2 (some .int) 1 := CLv.of TX3 11 ⟨by decide, by decide, by decide +kernel⟩ rfl k387 k388 k389 q56 k390
theorem ml_L_186 : CLv RL 186 3 yX3_heldPages cX3_heldPages 2 (some .int) 1 := CLv.of TX3 11 ⟨by decide, by decide, by decide +kernel⟩ rfl k365 k366 k367 q56 k368
theorem ml_L_189 : CLv RL 189 3 yX3_heldPagesByMarks cX3_heldPagesByMarks 2 (some .int) 1 := CLv.of TX3 11 ⟨by decide, by decide, by decide +kernel⟩ rfl k375 k376 k377 q56 k378
theorem ml_L_192 : CLv RL 192 3 yX3_weightInFavour cX3_weightInFavour 2 (some .int) 1 := CLv.of TX3 11 ⟨by decide, by decide, by decide +kernel⟩ rfl k395 k396 k397 q56 k398
theorem ml_L_195 : CLv RL 195 3 yX3_weightAgainst cX3_weightAgainst 2 (some .int) 1 := CLv.of TX3 11 ⟨by decide, by decide, by decide +kernel⟩ rfl k404 k405 k406 q56 k407
theorem ml_L_198 : CLv RL 198 3 yX3_weightAgainstByTotal cX3_weightAgainstByTotal 2 (some .int) 1 := CLv.of TX3 11 ⟨by decide, by decide, by decide +kernel⟩ rfl k412 k413 k414 q56 k415
theorem ml_L_201 : CLv RL 201 3 yX3_wouldDissolve cX3_wouldDissolve 2 (some .boolean) 1 := CLv.of TX3 11 ⟨by decide, by decide, by decide +kernel⟩ rfl k425 k426 k427 q56 k428
theorem ml_L_204 : CLv RL 204 3 yX3_heldShare cX3_heldShare 3 (some .float) 1 := CLv.of TX3 11 ⟨by decide, by decide, by decide +kernel⟩ rfl k596 k597 k598 q56 k599
theorem ml_L_208 : CLv RL 208 3 yX3_writeChapter cX3_writeChapter 3 (some .int) 1 := CLv.of TX3 11 ⟨by decide, by decide, by decide +kernel⟩ rfl k623 k624 k625 q56 k626
theorem ml_L_215 : CLv RL 215 3 yX3_heaviestChapter cX3_heaviestChapter 1 (some .int) 0 := CLv.of TX3 11 ⟨by decide, by decide, by decide +kernel⟩ rfl k434 k435 k436 q56 k437
theorem ml_L_224 : CLv RL 224 3 yX3_isHeld cX3_isHeld 2 (some .boolean) 1 := CLv.of TX3 11 ⟨by decide, by decide, by decide +kernel⟩ rfl k319 k320 k321 q56 k322
theorem ml_L_233 : CLv RL 233 3 yX3_writeSeats cX3_writeSeats 2 (some .int) 0 := CLv.of TX3 11 ⟨by decide, by decide, by decide +kernel⟩ rfl k931 k932 k933 q56 k934
theorem ml_L_239 : CLv RL 239 3 yX3_earsAtRisk cX3_earsAtRisk 3 (some .int) 2 := CLv.of TX3 11 ⟨by decide, by decide, by decide +kernel⟩ rfl k447 k448 k449 q56 k450
theorem ml_L_242 : CLv RL 242 3 yX3_span cX3_span 1 (some .int) 0 := CLv.of TX3 11 ⟨by decide, by decide, by decide +kernel⟩ rfl k523 k524 k525 q56 k526
theorem ml_L_245 : CLv RL 245 3 yX3_spanByEnds cX3_spanByEnds 1 (some .int) 0 := CLv.of TX3 11 ⟨by decide, by decide, by decide +kernel⟩ rfl k531 k532 k533 q56 k534
theorem ml_L_248 : CLv RL 248 3 yX3_ribbonCount cX3_ribbonCount 1 (some .int) 0 := CLv.of TX3 11 ⟨by decide, by decide, by decide +kernel⟩ rfl k555 k556 k557 q56 k558
theorem ml_L_251 : CLv RL 251 3 yX3_ribbonWeight cX3_ribbonWeight 1 (some .int) 0 := CLv.of TX3 11 ⟨by decide, by decide, by decide +kernel⟩ rfl k539 k540 k541 q56 k542
theorem ml_L_254 : CLv RL 254 3 yX3_dogEarWeight cX3_dogEarWeight 1 (some .int) 0 := CLv.of TX3 11 ⟨by decide, by decide, by decide +kernel⟩ rfl k547 k548 k549 q56 k550
theorem ml_L_257 : CLv RL 257 3 yX3_meanWeight cX3_meanWeight 1 (some .double) 0 := CLv.of TX3 11 ⟨by decide, by decide, by decide +kernel⟩ rfl k575 k576 k577 q56 k578
theorem ml_L_261 : CLv RL 261 3 yX3_isConsistent cX3_isConsistent 1 (some .boolean) 0 := CLv.of TX3 11 ⟨by decide, by decide, by decide +kernel⟩ rfl k600 k601 k602 q56 k603
theorem ml_L_265 : CLv RL 265 3 yX3_motionsCarried cX3_motionsCarried 1 (some .int) 0 := CLv.of TX3 11 ⟨by decide, by decide, by decide +kernel⟩ rfl k571 k572 k573 q56 k574
theorem ml_L_268 : CLv RL 268 3 yX3_votesHeld cX3_votesHeld 1 (some .int) 0 := CLv.of TX3 11 ⟨by decide, by decide, by decide +kernel⟩ rfl k567 k568 k569 q56 k570
theorem cs_IOOBE : Cond.castable IOOBE IOOBE ∈ nwW := mNW 234 (by decide +kernel) (by decide +kernel)
theorem cs_IAE : Cond.castable IAE IAE ∈ nwW := mNW 461 (by decide +kernel) (by decide +kernel)
theorem cs_UOE : Cond.castable UOE UOE ∈ nwW := mNW 1096 (by decide +kernel) (by decide +kernel)
theorem cs_NSE : Cond.castable NSE NSE ∈ nwW := mNW 493 (by decide +kernel) (by decide +kernel)
theorem lz_L_7 : CLz RL 7 yL_cell cL_cell 2 (some .int) 2 := ⟨⟨by decide, by decide, by decide +kernel⟩, k1022, k12, k1024⟩
theorem st_L_cell : Cond.static yL_cell ∈ wU := k1023
theorem lz_L_82 : CLz RL 82 yL_some cL_some 3 (some .int) 3 := ⟨⟨by decide, by decide, by decide +kernel⟩, k1019, k12, k1021⟩
theorem st_L_some : Cond.static yL_some ∈ wU := k1020
theorem lh_addRibbon : CLh RL 86 yL_addRibbon cL_addRibbon 4 (some .int) [(0, 6, 7, 19), (0, 6, 12, 21), (0, 6, 17, 23)] 3 := ⟨⟨by decide, by decide, by decide +kernel⟩, k1025, k1026, k12, k1027⟩
theorem lh_addDogEar : CLh RL 89 yL_addDogEar cL_addDogEar 4 (some .int) [(0, 6, 7, 19), (0, 6, 12, 21), (0, 6, 17, 23)] 3 := ⟨⟨by decide, by decide, by decide +kernel⟩, k1181, k1182, k12, k1183⟩
theorem lh_startChapter : CLh RL 91 yL_startChapter cL_startChapter 3 (some .int) [(0, 5, 6, 19), (0, 5, 11, 23)] 2 := ⟨⟨by decide, by decide, by decide +kernel⟩, k1188, k1189, k12, k1190⟩
theorem lz_L_94 : CLz RL 94 yL_acts cL_acts 8 none 3 := ⟨⟨by decide, by decide, by decide +kernel⟩, k1195, k12, k1197⟩
theorem st_L_acts : Cond.static yL_acts ∈ wU := k1196
theorem lh_removeMark : CLh RL 101 yL_removeMark cL_removeMark 3 (some .int) [(0, 5, 6, 19)] 2 := ⟨⟨by decide, by decide, by decide +kernel⟩, k1198, k1199, k12, k1200⟩
theorem lh_moveRibbon : CLh RL 103 yL_moveRibbon cL_moveRibbon 4 (some .int) [(0, 6, 7, 19), (0, 6, 12, 23)] 3 := ⟨⟨by decide, by decide, by decide +kernel⟩, k1205, k1206, k12, k1207⟩
theorem lh_swapSeats : CLh RL 105 yL_swapSeats cL_swapSeats 4 (some .int) [(0, 6, 7, 19), (0, 6, 12, 23)] 3 := ⟨⟨by decide, by decide, by decide +kernel⟩, k1212, k1213, k12, k1214⟩
theorem lh_vote : CLh RL 110 yL_vote cL_vote 3 (some .int) [(0, 13, 14, 19), (0, 13, 19, 23)] 2 := ⟨⟨by decide, by decide, by decide +kernel⟩, k1219, k1220, k12, k1221⟩
theorem lh_turnPages : CLh RL 113 yL_turnPages cL_turnPages 4 (some .int) [(0, 6, 7, 21), (0, 6, 12, 23)] 3 := ⟨⟨by decide, by decide, by decide +kernel⟩, k1226, k1227, k12, k1228⟩
theorem lz_L_129 : CLz RL 129 yL_build cL_build 4 none 2 := ⟨⟨by decide, by decide, by decide +kernel⟩, k1016, k12, k1018⟩
theorem st_L_build : Cond.static yL_build ∈ wU := k1017
theorem lh_seatOf : CLh RL 142 yL_seatOf cL_seatOf 3 (some .int) [(0, 5, 6, 19), (0, 5, 11, 52)] 2 := ⟨⟨by decide, by decide, by decide +kernel⟩, k940, k941, k12, k942⟩
theorem lh_ribbonIn : CLh RL 150 yL_ribbonIn cL_ribbonIn 3 (some .int) [(0, 5, 6, 19), (0, 5, 11, 52)] 2 := ⟨⟨by decide, by decide, by decide +kernel⟩, k952, k953, k12, k954⟩
theorem lz_L_211 : CLz RL 211 yL_isLine cL_isLine 4 (some .boolean) 3 := ⟨⟨by decide, by decide, by decide +kernel⟩, k1233, k12, k1235⟩
theorem st_L_isLine : Cond.static yL_isLine ∈ wU := k1234
theorem lh_nextMark : CLh RL 222 yL_nextMark cL_nextMark 3 (some .int) [(0, 5, 6, 19), (0, 5, 11, 52)] 2 := ⟨⟨by decide, by decide, by decide +kernel⟩, k967, k968, k12, k969⟩
theorem lh_markOn : CLh RL 227 yL_markOn cL_markOn 3 (some .int) [(0, 5, 6, 19), (0, 5, 11, 52)] 2 := ⟨⟨by decide, by decide, by decide +kernel⟩, k960, k961, k12, k962⟩
theorem lh_previousMark : CLh RL 229 yL_previousMark cL_previousMark 3 (some .int) [(0, 5, 6, 19), (0, 5, 11, 52)] 2 := ⟨⟨by decide, by decide, by decide +kernel⟩, k978, k979, k12, k980⟩
theorem lh_nearestMark : CLh RL 231 yL_nearestMark cL_nearestMark 3 (some .int) [(0, 5, 6, 19), (0, 5, 11, 52)] 2 := ⟨⟨by decide, by decide, by decide +kernel⟩, k989, k990, k12, k991⟩
theorem lh_pagesToNextMark : CLh RL 236 yL_pagesToNextMark cL_pagesToNextMark 2 (some .int) [(0, 4, 5, 52)] 1 := ⟨⟨by decide, by decide, by decide +kernel⟩, k1002, k1003, k12, k1004⟩
theorem lh_markByPage : CLh RL 271 yL_markByPage cL_markByPage 3 (some .int) [(0, 5, 6, 52)] 2 := ⟨⟨by decide, by decide, by decide +kernel⟩, k1010, k1011, k12, k1012⟩
theorem lh_markByWeight : CLh RL 273 yL_markByWeight cL_markByWeight 3 (some .int) [(0, 5, 6, 52)] 2 := ⟨⟨by decide, by decide, by decide +kernel⟩, k1013, k1014, k12, k1015⟩
theorem lz_L_128 : CLz RL 128 yX3_init cX3_init 1 none 0 := ⟨⟨by decide, by decide, by decide +kernel⟩, k41, q56, k43⟩
theorem im_L_128 : Cond.instanceMethod yX3_init ∈ wU := k42
theorem lz_L_160 : CLz RL 160 yJ4_init_da8c8 cJ4_init_da8c8 1 none 0 := ⟨⟨by decide, by decide, by decide +kernel⟩, k1268, q61, q209⟩
theorem im_L_160 : Cond.instanceMethod yJ4_init_da8c8 ∈ wU := q208
abbrev G9x : Type := (Int32 × XV) ⊕ (String × XV)
def sndR (r : (Int32 × XV) ⊕ (String × XV)) : XV := match r with
  | .inl q => q.2
  | .inr q => q.2
def codesOk (codes : List String) (r : (Int32 × XV) ⊕ (String × XV)) : Prop := ∀ q, r = .inr q → ∃ j : Nat, codes[j]? = some q.1
