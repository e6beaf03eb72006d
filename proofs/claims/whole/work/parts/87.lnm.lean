/-! ===== names and links of the law's wrappers ===== -/
def RL : String := "BookmarkManagerLaw"
abbrev cL_addRibbon : ByteArray := method_3_code
def yL_addRibbon : MethodName := ⟨RL, "addRibbon", "(LBookmarkManager;II[J)I"⟩
theorem dL_addRibbon_0 : decode cL_addRibbon 0 = .ok (.aload_n 3, 1) := by decide +kernel
theorem dL_addRibbon_1 : decode cL_addRibbon 1 = .ok (.iconst 0, 1) := by decide +kernel
theorem dL_addRibbon_2 : decode cL_addRibbon 2 = .ok (.aload_n 0, 1) := by decide +kernel
theorem dL_addRibbon_3 : decode cL_addRibbon 3 = .ok (.iload_n 1, 1) := by decide +kernel
theorem dL_addRibbon_4 : decode cL_addRibbon 4 = .ok (.iload_n 2, 1) := by decide +kernel
theorem dL_addRibbon_5 : decode cL_addRibbon 5 = .ok (.invokevirtual 7, 3) := by decide +kernel
theorem dL_addRibbon_8 : decode cL_addRibbon 8 = .ok (.i2l, 1) := by decide +kernel
theorem dL_addRibbon_9 : decode cL_addRibbon 9 = .ok (.lastore, 1) := by decide +kernel
theorem dL_addRibbon_10 : decode cL_addRibbon 10 = .ok (.goto 15, 3) := by decide +kernel
theorem dL_addRibbon_13 : decode cL_addRibbon 13 = .ok (.astore 4, 2) := by decide +kernel
theorem dL_addRibbon_15 : decode cL_addRibbon 15 = .ok (.iconst 1, 1) := by decide +kernel
theorem dL_addRibbon_16 : decode cL_addRibbon 16 = .ok (.ireturn, 1) := by decide +kernel
theorem dL_addRibbon_17 : decode cL_addRibbon 17 = .ok (.astore 4, 2) := by decide +kernel
theorem dL_addRibbon_19 : decode cL_addRibbon 19 = .ok (.iconst 2, 1) := by decide +kernel
theorem dL_addRibbon_20 : decode cL_addRibbon 20 = .ok (.ireturn, 1) := by decide +kernel
theorem dL_addRibbon_21 : decode cL_addRibbon 21 = .ok (.astore 4, 2) := by decide +kernel
theorem dL_addRibbon_23 : decode cL_addRibbon 23 = .ok (.iconst 3, 1) := by decide +kernel
theorem dL_addRibbon_24 : decode cL_addRibbon 24 = .ok (.ireturn, 1) := by decide +kernel
theorem dL_addRibbon_25 : decode cL_addRibbon 25 = .ok (.iconst 0, 1) := by decide +kernel
theorem dL_addRibbon_26 : decode cL_addRibbon 26 = .ok (.ireturn, 1) := by decide +kernel
abbrev cL_addDogEar : ByteArray := method_4_code
def yL_addDogEar : MethodName := ⟨RL, "addDogEar", "(LBookmarkManager;II[J)I"⟩
theorem dL_addDogEar_0 : decode cL_addDogEar 0 = .ok (.aload_n 3, 1) := by decide +kernel
theorem dL_addDogEar_1 : decode cL_addDogEar 1 = .ok (.iconst 0, 1) := by decide +kernel
theorem dL_addDogEar_2 : decode cL_addDogEar 2 = .ok (.aload_n 0, 1) := by decide +kernel
theorem dL_addDogEar_3 : decode cL_addDogEar 3 = .ok (.iload_n 1, 1) := by decide +kernel
theorem dL_addDogEar_4 : decode cL_addDogEar 4 = .ok (.iload_n 2, 1) := by decide +kernel
theorem dL_addDogEar_5 : decode cL_addDogEar 5 = .ok (.invokevirtual 19, 3) := by decide +kernel
theorem dL_addDogEar_8 : decode cL_addDogEar 8 = .ok (.i2l, 1) := by decide +kernel
theorem dL_addDogEar_9 : decode cL_addDogEar 9 = .ok (.lastore, 1) := by decide +kernel
theorem dL_addDogEar_10 : decode cL_addDogEar 10 = .ok (.goto 15, 3) := by decide +kernel
theorem dL_addDogEar_13 : decode cL_addDogEar 13 = .ok (.astore 4, 2) := by decide +kernel
theorem dL_addDogEar_15 : decode cL_addDogEar 15 = .ok (.iconst 1, 1) := by decide +kernel
theorem dL_addDogEar_16 : decode cL_addDogEar 16 = .ok (.ireturn, 1) := by decide +kernel
theorem dL_addDogEar_17 : decode cL_addDogEar 17 = .ok (.astore 4, 2) := by decide +kernel
theorem dL_addDogEar_19 : decode cL_addDogEar 19 = .ok (.iconst 2, 1) := by decide +kernel
theorem dL_addDogEar_20 : decode cL_addDogEar 20 = .ok (.ireturn, 1) := by decide +kernel
theorem dL_addDogEar_21 : decode cL_addDogEar 21 = .ok (.astore 4, 2) := by decide +kernel
theorem dL_addDogEar_23 : decode cL_addDogEar 23 = .ok (.iconst 3, 1) := by decide +kernel
theorem dL_addDogEar_24 : decode cL_addDogEar 24 = .ok (.ireturn, 1) := by decide +kernel
theorem dL_addDogEar_25 : decode cL_addDogEar 25 = .ok (.iconst 0, 1) := by decide +kernel
theorem dL_addDogEar_26 : decode cL_addDogEar 26 = .ok (.ireturn, 1) := by decide +kernel
abbrev cL_removeMark : ByteArray := method_5_code
def yL_removeMark : MethodName := ⟨RL, "removeMark", "(LBookmarkManager;I[J)I"⟩
theorem dL_removeMark_0 : decode cL_removeMark 0 = .ok (.aload_n 2, 1) := by decide +kernel
theorem dL_removeMark_1 : decode cL_removeMark 1 = .ok (.iconst 0, 1) := by decide +kernel
theorem dL_removeMark_2 : decode cL_removeMark 2 = .ok (.aload_n 0, 1) := by decide +kernel
theorem dL_removeMark_3 : decode cL_removeMark 3 = .ok (.iload_n 1, 1) := by decide +kernel
theorem dL_removeMark_4 : decode cL_removeMark 4 = .ok (.invokevirtual 22, 3) := by decide +kernel
theorem dL_removeMark_7 : decode cL_removeMark 7 = .ok (.i2l, 1) := by decide +kernel
theorem dL_removeMark_8 : decode cL_removeMark 8 = .ok (.lastore, 1) := by decide +kernel
theorem dL_removeMark_9 : decode cL_removeMark 9 = .ok (.goto 6, 3) := by decide +kernel
theorem dL_removeMark_12 : decode cL_removeMark 12 = .ok (.astore_n 3, 1) := by decide +kernel
theorem dL_removeMark_13 : decode cL_removeMark 13 = .ok (.iconst 1, 1) := by decide +kernel
theorem dL_removeMark_14 : decode cL_removeMark 14 = .ok (.ireturn, 1) := by decide +kernel
theorem dL_removeMark_15 : decode cL_removeMark 15 = .ok (.iconst 0, 1) := by decide +kernel
theorem dL_removeMark_16 : decode cL_removeMark 16 = .ok (.ireturn, 1) := by decide +kernel
abbrev cL_moveRibbon : ByteArray := method_6_code
def yL_moveRibbon : MethodName := ⟨RL, "moveRibbon", "(LBookmarkManager;II[J)I"⟩
theorem dL_moveRibbon_0 : decode cL_moveRibbon 0 = .ok (.aload_n 3, 1) := by decide +kernel
theorem dL_moveRibbon_1 : decode cL_moveRibbon 1 = .ok (.iconst 0, 1) := by decide +kernel
theorem dL_moveRibbon_2 : decode cL_moveRibbon 2 = .ok (.aload_n 0, 1) := by decide +kernel
theorem dL_moveRibbon_3 : decode cL_moveRibbon 3 = .ok (.iload_n 1, 1) := by decide +kernel
theorem dL_moveRibbon_4 : decode cL_moveRibbon 4 = .ok (.iload_n 2, 1) := by decide +kernel
theorem dL_moveRibbon_5 : decode cL_moveRibbon 5 = .ok (.invokevirtual 26, 3) := by decide +kernel
theorem dL_moveRibbon_8 : decode cL_moveRibbon 8 = .ok (.i2l, 1) := by decide +kernel
theorem dL_moveRibbon_9 : decode cL_moveRibbon 9 = .ok (.lastore, 1) := by decide +kernel
theorem dL_moveRibbon_10 : decode cL_moveRibbon 10 = .ok (.goto 11, 3) := by decide +kernel
theorem dL_moveRibbon_13 : decode cL_moveRibbon 13 = .ok (.astore 4, 2) := by decide +kernel
theorem dL_moveRibbon_15 : decode cL_moveRibbon 15 = .ok (.iconst 1, 1) := by decide +kernel
theorem dL_moveRibbon_16 : decode cL_moveRibbon 16 = .ok (.ireturn, 1) := by decide +kernel
theorem dL_moveRibbon_17 : decode cL_moveRibbon 17 = .ok (.astore 4, 2) := by decide +kernel
theorem dL_moveRibbon_19 : decode cL_moveRibbon 19 = .ok (.iconst 2, 1) := by decide +kernel
theorem dL_moveRibbon_20 : decode cL_moveRibbon 20 = .ok (.ireturn, 1) := by decide +kernel
theorem dL_moveRibbon_21 : decode cL_moveRibbon 21 = .ok (.iconst 0, 1) := by decide +kernel
theorem dL_moveRibbon_22 : decode cL_moveRibbon 22 = .ok (.ireturn, 1) := by decide +kernel
abbrev cL_swapSeats : ByteArray := method_7_code
def yL_swapSeats : MethodName := ⟨RL, "swapSeats", "(LBookmarkManager;II[J)I"⟩
theorem dL_swapSeats_0 : decode cL_swapSeats 0 = .ok (.aload_n 3, 1) := by decide +kernel
theorem dL_swapSeats_1 : decode cL_swapSeats 1 = .ok (.iconst 0, 1) := by decide +kernel
theorem dL_swapSeats_2 : decode cL_swapSeats 2 = .ok (.aload_n 0, 1) := by decide +kernel
theorem dL_swapSeats_3 : decode cL_swapSeats 3 = .ok (.iload_n 1, 1) := by decide +kernel
theorem dL_swapSeats_4 : decode cL_swapSeats 4 = .ok (.iload_n 2, 1) := by decide +kernel
theorem dL_swapSeats_5 : decode cL_swapSeats 5 = .ok (.invokevirtual 29, 3) := by decide +kernel
theorem dL_swapSeats_8 : decode cL_swapSeats 8 = .ok (.i2l, 1) := by decide +kernel
theorem dL_swapSeats_9 : decode cL_swapSeats 9 = .ok (.lastore, 1) := by decide +kernel
theorem dL_swapSeats_10 : decode cL_swapSeats 10 = .ok (.goto 11, 3) := by decide +kernel
theorem dL_swapSeats_13 : decode cL_swapSeats 13 = .ok (.astore 4, 2) := by decide +kernel
theorem dL_swapSeats_15 : decode cL_swapSeats 15 = .ok (.iconst 1, 1) := by decide +kernel
theorem dL_swapSeats_16 : decode cL_swapSeats 16 = .ok (.ireturn, 1) := by decide +kernel
theorem dL_swapSeats_17 : decode cL_swapSeats 17 = .ok (.astore 4, 2) := by decide +kernel
theorem dL_swapSeats_19 : decode cL_swapSeats 19 = .ok (.iconst 2, 1) := by decide +kernel
theorem dL_swapSeats_20 : decode cL_swapSeats 20 = .ok (.ireturn, 1) := by decide +kernel
theorem dL_swapSeats_21 : decode cL_swapSeats 21 = .ok (.iconst 0, 1) := by decide +kernel
theorem dL_swapSeats_22 : decode cL_swapSeats 22 = .ok (.ireturn, 1) := by decide +kernel
abbrev cL_isRibbon : ByteArray := method_8_code
def yL_isRibbon : MethodName := ⟨RL, "isRibbon", "(LBookmarkManager;I[J)I"⟩
theorem dL_isRibbon_0 : decode cL_isRibbon 0 = .ok (.aload_n 2, 1) := by decide +kernel
theorem dL_isRibbon_1 : decode cL_isRibbon 1 = .ok (.iconst 0, 1) := by decide +kernel
theorem dL_isRibbon_2 : decode cL_isRibbon 2 = .ok (.aload_n 0, 1) := by decide +kernel
theorem dL_isRibbon_3 : decode cL_isRibbon 3 = .ok (.iload_n 1, 1) := by decide +kernel
theorem dL_isRibbon_4 : decode cL_isRibbon 4 = .ok (.invokevirtual 32, 3) := by decide +kernel
theorem dL_isRibbon_7 : decode cL_isRibbon 7 = .ok (.ifCond .eq 7, 3) := by decide +kernel
theorem dL_isRibbon_10 : decode cL_isRibbon 10 = .ok (.lconst 1, 1) := by decide +kernel
theorem dL_isRibbon_11 : decode cL_isRibbon 11 = .ok (.goto 4, 3) := by decide +kernel
theorem dL_isRibbon_14 : decode cL_isRibbon 14 = .ok (.lconst 0, 1) := by decide +kernel
theorem dL_isRibbon_15 : decode cL_isRibbon 15 = .ok (.lastore, 1) := by decide +kernel
theorem dL_isRibbon_16 : decode cL_isRibbon 16 = .ok (.goto 6, 3) := by decide +kernel
theorem dL_isRibbon_19 : decode cL_isRibbon 19 = .ok (.astore_n 3, 1) := by decide +kernel
theorem dL_isRibbon_20 : decode cL_isRibbon 20 = .ok (.iconst 1, 1) := by decide +kernel
theorem dL_isRibbon_21 : decode cL_isRibbon 21 = .ok (.ireturn, 1) := by decide +kernel
theorem dL_isRibbon_22 : decode cL_isRibbon 22 = .ok (.iconst 0, 1) := by decide +kernel
theorem dL_isRibbon_23 : decode cL_isRibbon 23 = .ok (.ireturn, 1) := by decide +kernel
abbrev cL_pageOf : ByteArray := method_9_code
def yL_pageOf : MethodName := ⟨RL, "pageOf", "(LBookmarkManager;I[J)I"⟩
theorem dL_pageOf_0 : decode cL_pageOf 0 = .ok (.aload_n 2, 1) := by decide +kernel
theorem dL_pageOf_1 : decode cL_pageOf 1 = .ok (.iconst 0, 1) := by decide +kernel
theorem dL_pageOf_2 : decode cL_pageOf 2 = .ok (.aload_n 0, 1) := by decide +kernel
theorem dL_pageOf_3 : decode cL_pageOf 3 = .ok (.iload_n 1, 1) := by decide +kernel
theorem dL_pageOf_4 : decode cL_pageOf 4 = .ok (.invokevirtual 36, 3) := by decide +kernel
theorem dL_pageOf_7 : decode cL_pageOf 7 = .ok (.i2l, 1) := by decide +kernel
theorem dL_pageOf_8 : decode cL_pageOf 8 = .ok (.lastore, 1) := by decide +kernel
theorem dL_pageOf_9 : decode cL_pageOf 9 = .ok (.goto 6, 3) := by decide +kernel
theorem dL_pageOf_12 : decode cL_pageOf 12 = .ok (.astore_n 3, 1) := by decide +kernel
theorem dL_pageOf_13 : decode cL_pageOf 13 = .ok (.iconst 1, 1) := by decide +kernel
theorem dL_pageOf_14 : decode cL_pageOf 14 = .ok (.ireturn, 1) := by decide +kernel
theorem dL_pageOf_15 : decode cL_pageOf 15 = .ok (.iconst 0, 1) := by decide +kernel
theorem dL_pageOf_16 : decode cL_pageOf 16 = .ok (.ireturn, 1) := by decide +kernel
abbrev cL_weightOf : ByteArray := method_10_code
def yL_weightOf : MethodName := ⟨RL, "weightOf", "(LBookmarkManager;I[J)I"⟩
theorem dL_weightOf_0 : decode cL_weightOf 0 = .ok (.aload_n 2, 1) := by decide +kernel
theorem dL_weightOf_1 : decode cL_weightOf 1 = .ok (.iconst 0, 1) := by decide +kernel
theorem dL_weightOf_2 : decode cL_weightOf 2 = .ok (.aload_n 0, 1) := by decide +kernel
theorem dL_weightOf_3 : decode cL_weightOf 3 = .ok (.iload_n 1, 1) := by decide +kernel
theorem dL_weightOf_4 : decode cL_weightOf 4 = .ok (.invokevirtual 39, 3) := by decide +kernel
theorem dL_weightOf_7 : decode cL_weightOf 7 = .ok (.i2l, 1) := by decide +kernel
theorem dL_weightOf_8 : decode cL_weightOf 8 = .ok (.lastore, 1) := by decide +kernel
theorem dL_weightOf_9 : decode cL_weightOf 9 = .ok (.goto 6, 3) := by decide +kernel
theorem dL_weightOf_12 : decode cL_weightOf 12 = .ok (.astore_n 3, 1) := by decide +kernel
theorem dL_weightOf_13 : decode cL_weightOf 13 = .ok (.iconst 1, 1) := by decide +kernel
theorem dL_weightOf_14 : decode cL_weightOf 14 = .ok (.ireturn, 1) := by decide +kernel
theorem dL_weightOf_15 : decode cL_weightOf 15 = .ok (.iconst 0, 1) := by decide +kernel
theorem dL_weightOf_16 : decode cL_weightOf 16 = .ok (.ireturn, 1) := by decide +kernel
abbrev cL_wearOf : ByteArray := method_11_code
def yL_wearOf : MethodName := ⟨RL, "wearOf", "(LBookmarkManager;I[J)I"⟩
theorem dL_wearOf_0 : decode cL_wearOf 0 = .ok (.aload_n 2, 1) := by decide +kernel
theorem dL_wearOf_1 : decode cL_wearOf 1 = .ok (.iconst 0, 1) := by decide +kernel
theorem dL_wearOf_2 : decode cL_wearOf 2 = .ok (.aload_n 0, 1) := by decide +kernel
theorem dL_wearOf_3 : decode cL_wearOf 3 = .ok (.iload_n 1, 1) := by decide +kernel
theorem dL_wearOf_4 : decode cL_wearOf 4 = .ok (.invokevirtual 42, 3) := by decide +kernel
theorem dL_wearOf_7 : decode cL_wearOf 7 = .ok (.i2l, 1) := by decide +kernel
theorem dL_wearOf_8 : decode cL_wearOf 8 = .ok (.lastore, 1) := by decide +kernel
theorem dL_wearOf_9 : decode cL_wearOf 9 = .ok (.goto 6, 3) := by decide +kernel
theorem dL_wearOf_12 : decode cL_wearOf 12 = .ok (.astore_n 3, 1) := by decide +kernel
theorem dL_wearOf_13 : decode cL_wearOf 13 = .ok (.iconst 1, 1) := by decide +kernel
theorem dL_wearOf_14 : decode cL_wearOf 14 = .ok (.ireturn, 1) := by decide +kernel
theorem dL_wearOf_15 : decode cL_wearOf 15 = .ok (.iconst 0, 1) := by decide +kernel
theorem dL_wearOf_16 : decode cL_wearOf 16 = .ok (.ireturn, 1) := by decide +kernel
abbrev cL_seatOf : ByteArray := method_12_code
def yL_seatOf : MethodName := ⟨RL, "seatOf", "(LBookmarkManager;I[J)I"⟩
theorem dL_seatOf_0 : decode cL_seatOf 0 = .ok (.aload_n 2, 1) := by decide +kernel
theorem dL_seatOf_1 : decode cL_seatOf 1 = .ok (.iconst 0, 1) := by decide +kernel
theorem dL_seatOf_2 : decode cL_seatOf 2 = .ok (.aload_n 0, 1) := by decide +kernel
theorem dL_seatOf_3 : decode cL_seatOf 3 = .ok (.iload_n 1, 1) := by decide +kernel
theorem dL_seatOf_4 : decode cL_seatOf 4 = .ok (.invokevirtual 45, 3) := by decide +kernel
theorem dL_seatOf_7 : decode cL_seatOf 7 = .ok (.i2l, 1) := by decide +kernel
theorem dL_seatOf_8 : decode cL_seatOf 8 = .ok (.lastore, 1) := by decide +kernel
theorem dL_seatOf_9 : decode cL_seatOf 9 = .ok (.goto 9, 3) := by decide +kernel
theorem dL_seatOf_12 : decode cL_seatOf 12 = .ok (.astore_n 3, 1) := by decide +kernel
theorem dL_seatOf_13 : decode cL_seatOf 13 = .ok (.iconst 1, 1) := by decide +kernel
theorem dL_seatOf_14 : decode cL_seatOf 14 = .ok (.ireturn, 1) := by decide +kernel
theorem dL_seatOf_15 : decode cL_seatOf 15 = .ok (.astore_n 3, 1) := by decide +kernel
theorem dL_seatOf_16 : decode cL_seatOf 16 = .ok (.iconst 2, 1) := by decide +kernel
theorem dL_seatOf_17 : decode cL_seatOf 17 = .ok (.ireturn, 1) := by decide +kernel
theorem dL_seatOf_18 : decode cL_seatOf 18 = .ok (.iconst 0, 1) := by decide +kernel
theorem dL_seatOf_19 : decode cL_seatOf 19 = .ok (.ireturn, 1) := by decide +kernel
abbrev cL_ribbonIn : ByteArray := method_13_code
def yL_ribbonIn : MethodName := ⟨RL, "ribbonIn", "(LBookmarkManager;I[J)I"⟩
theorem dL_ribbonIn_0 : decode cL_ribbonIn 0 = .ok (.aload_n 2, 1) := by decide +kernel
theorem dL_ribbonIn_1 : decode cL_ribbonIn 1 = .ok (.iconst 0, 1) := by decide +kernel
theorem dL_ribbonIn_2 : decode cL_ribbonIn 2 = .ok (.aload_n 0, 1) := by decide +kernel
theorem dL_ribbonIn_3 : decode cL_ribbonIn 3 = .ok (.iload_n 1, 1) := by decide +kernel
theorem dL_ribbonIn_4 : decode cL_ribbonIn 4 = .ok (.invokevirtual 50, 3) := by decide +kernel
theorem dL_ribbonIn_7 : decode cL_ribbonIn 7 = .ok (.i2l, 1) := by decide +kernel
theorem dL_ribbonIn_8 : decode cL_ribbonIn 8 = .ok (.lastore, 1) := by decide +kernel
theorem dL_ribbonIn_9 : decode cL_ribbonIn 9 = .ok (.goto 9, 3) := by decide +kernel
theorem dL_ribbonIn_12 : decode cL_ribbonIn 12 = .ok (.astore_n 3, 1) := by decide +kernel
theorem dL_ribbonIn_13 : decode cL_ribbonIn 13 = .ok (.iconst 1, 1) := by decide +kernel
theorem dL_ribbonIn_14 : decode cL_ribbonIn 14 = .ok (.ireturn, 1) := by decide +kernel
theorem dL_ribbonIn_15 : decode cL_ribbonIn 15 = .ok (.astore_n 3, 1) := by decide +kernel
theorem dL_ribbonIn_16 : decode cL_ribbonIn 16 = .ok (.iconst 2, 1) := by decide +kernel
theorem dL_ribbonIn_17 : decode cL_ribbonIn 17 = .ok (.ireturn, 1) := by decide +kernel
theorem dL_ribbonIn_18 : decode cL_ribbonIn 18 = .ok (.iconst 0, 1) := by decide +kernel
theorem dL_ribbonIn_19 : decode cL_ribbonIn 19 = .ok (.ireturn, 1) := by decide +kernel
abbrev cL_isHeld : ByteArray := method_14_code
def yL_isHeld : MethodName := ⟨RL, "isHeld", "(LBookmarkManager;I[J)I"⟩
theorem dL_isHeld_0 : decode cL_isHeld 0 = .ok (.aload_n 2, 1) := by decide +kernel
theorem dL_isHeld_1 : decode cL_isHeld 1 = .ok (.iconst 0, 1) := by decide +kernel
theorem dL_isHeld_2 : decode cL_isHeld 2 = .ok (.aload_n 0, 1) := by decide +kernel
theorem dL_isHeld_3 : decode cL_isHeld 3 = .ok (.iload_n 1, 1) := by decide +kernel
theorem dL_isHeld_4 : decode cL_isHeld 4 = .ok (.invokevirtual 53, 3) := by decide +kernel
theorem dL_isHeld_7 : decode cL_isHeld 7 = .ok (.ifCond .eq 7, 3) := by decide +kernel
theorem dL_isHeld_10 : decode cL_isHeld 10 = .ok (.lconst 1, 1) := by decide +kernel
theorem dL_isHeld_11 : decode cL_isHeld 11 = .ok (.goto 4, 3) := by decide +kernel
theorem dL_isHeld_14 : decode cL_isHeld 14 = .ok (.lconst 0, 1) := by decide +kernel
theorem dL_isHeld_15 : decode cL_isHeld 15 = .ok (.lastore, 1) := by decide +kernel
theorem dL_isHeld_16 : decode cL_isHeld 16 = .ok (.goto 6, 3) := by decide +kernel
theorem dL_isHeld_19 : decode cL_isHeld 19 = .ok (.astore_n 3, 1) := by decide +kernel
theorem dL_isHeld_20 : decode cL_isHeld 20 = .ok (.iconst 1, 1) := by decide +kernel
theorem dL_isHeld_21 : decode cL_isHeld 21 = .ok (.ireturn, 1) := by decide +kernel
theorem dL_isHeld_22 : decode cL_isHeld 22 = .ok (.iconst 0, 1) := by decide +kernel
theorem dL_isHeld_23 : decode cL_isHeld 23 = .ok (.ireturn, 1) := by decide +kernel
abbrev cL_markOn : ByteArray := method_15_code
def yL_markOn : MethodName := ⟨RL, "markOn", "(LBookmarkManager;I[J)I"⟩
theorem dL_markOn_0 : decode cL_markOn 0 = .ok (.aload_n 2, 1) := by decide +kernel
theorem dL_markOn_1 : decode cL_markOn 1 = .ok (.iconst 0, 1) := by decide +kernel
theorem dL_markOn_2 : decode cL_markOn 2 = .ok (.aload_n 0, 1) := by decide +kernel
theorem dL_markOn_3 : decode cL_markOn 3 = .ok (.iload_n 1, 1) := by decide +kernel
theorem dL_markOn_4 : decode cL_markOn 4 = .ok (.invokevirtual 56, 3) := by decide +kernel
theorem dL_markOn_7 : decode cL_markOn 7 = .ok (.i2l, 1) := by decide +kernel
theorem dL_markOn_8 : decode cL_markOn 8 = .ok (.lastore, 1) := by decide +kernel
theorem dL_markOn_9 : decode cL_markOn 9 = .ok (.goto 9, 3) := by decide +kernel
theorem dL_markOn_12 : decode cL_markOn 12 = .ok (.astore_n 3, 1) := by decide +kernel
theorem dL_markOn_13 : decode cL_markOn 13 = .ok (.iconst 1, 1) := by decide +kernel
theorem dL_markOn_14 : decode cL_markOn 14 = .ok (.ireturn, 1) := by decide +kernel
theorem dL_markOn_15 : decode cL_markOn 15 = .ok (.astore_n 3, 1) := by decide +kernel
theorem dL_markOn_16 : decode cL_markOn 16 = .ok (.iconst 2, 1) := by decide +kernel
theorem dL_markOn_17 : decode cL_markOn 17 = .ok (.ireturn, 1) := by decide +kernel
theorem dL_markOn_18 : decode cL_markOn 18 = .ok (.iconst 0, 1) := by decide +kernel
theorem dL_markOn_19 : decode cL_markOn 19 = .ok (.ireturn, 1) := by decide +kernel
abbrev cL_nextMark : ByteArray := method_16_code
def yL_nextMark : MethodName := ⟨RL, "nextMark", "(LBookmarkManager;I[J)I"⟩
theorem dL_nextMark_0 : decode cL_nextMark 0 = .ok (.aload_n 2, 1) := by decide +kernel
theorem dL_nextMark_1 : decode cL_nextMark 1 = .ok (.iconst 0, 1) := by decide +kernel
theorem dL_nextMark_2 : decode cL_nextMark 2 = .ok (.aload_n 0, 1) := by decide +kernel
theorem dL_nextMark_3 : decode cL_nextMark 3 = .ok (.iload_n 1, 1) := by decide +kernel
theorem dL_nextMark_4 : decode cL_nextMark 4 = .ok (.invokevirtual 59, 3) := by decide +kernel
theorem dL_nextMark_7 : decode cL_nextMark 7 = .ok (.i2l, 1) := by decide +kernel
theorem dL_nextMark_8 : decode cL_nextMark 8 = .ok (.lastore, 1) := by decide +kernel
theorem dL_nextMark_9 : decode cL_nextMark 9 = .ok (.goto 9, 3) := by decide +kernel
theorem dL_nextMark_12 : decode cL_nextMark 12 = .ok (.astore_n 3, 1) := by decide +kernel
theorem dL_nextMark_13 : decode cL_nextMark 13 = .ok (.iconst 1, 1) := by decide +kernel
theorem dL_nextMark_14 : decode cL_nextMark 14 = .ok (.ireturn, 1) := by decide +kernel
theorem dL_nextMark_15 : decode cL_nextMark 15 = .ok (.astore_n 3, 1) := by decide +kernel
theorem dL_nextMark_16 : decode cL_nextMark 16 = .ok (.iconst 2, 1) := by decide +kernel
theorem dL_nextMark_17 : decode cL_nextMark 17 = .ok (.ireturn, 1) := by decide +kernel
theorem dL_nextMark_18 : decode cL_nextMark 18 = .ok (.iconst 0, 1) := by decide +kernel
theorem dL_nextMark_19 : decode cL_nextMark 19 = .ok (.ireturn, 1) := by decide +kernel
abbrev cL_previousMark : ByteArray := method_17_code
def yL_previousMark : MethodName := ⟨RL, "previousMark", "(LBookmarkManager;I[J)I"⟩
theorem dL_previousMark_0 : decode cL_previousMark 0 = .ok (.aload_n 2, 1) := by decide +kernel
theorem dL_previousMark_1 : decode cL_previousMark 1 = .ok (.iconst 0, 1) := by decide +kernel
theorem dL_previousMark_2 : decode cL_previousMark 2 = .ok (.aload_n 0, 1) := by decide +kernel
theorem dL_previousMark_3 : decode cL_previousMark 3 = .ok (.iload_n 1, 1) := by decide +kernel
theorem dL_previousMark_4 : decode cL_previousMark 4 = .ok (.invokevirtual 62, 3) := by decide +kernel
theorem dL_previousMark_7 : decode cL_previousMark 7 = .ok (.i2l, 1) := by decide +kernel
theorem dL_previousMark_8 : decode cL_previousMark 8 = .ok (.lastore, 1) := by decide +kernel
theorem dL_previousMark_9 : decode cL_previousMark 9 = .ok (.goto 9, 3) := by decide +kernel
theorem dL_previousMark_12 : decode cL_previousMark 12 = .ok (.astore_n 3, 1) := by decide +kernel
theorem dL_previousMark_13 : decode cL_previousMark 13 = .ok (.iconst 1, 1) := by decide +kernel
theorem dL_previousMark_14 : decode cL_previousMark 14 = .ok (.ireturn, 1) := by decide +kernel
theorem dL_previousMark_15 : decode cL_previousMark 15 = .ok (.astore_n 3, 1) := by decide +kernel
theorem dL_previousMark_16 : decode cL_previousMark 16 = .ok (.iconst 2, 1) := by decide +kernel
theorem dL_previousMark_17 : decode cL_previousMark 17 = .ok (.ireturn, 1) := by decide +kernel
theorem dL_previousMark_18 : decode cL_previousMark 18 = .ok (.iconst 0, 1) := by decide +kernel
theorem dL_previousMark_19 : decode cL_previousMark 19 = .ok (.ireturn, 1) := by decide +kernel
abbrev cL_nearestMark : ByteArray := method_18_code
def yL_nearestMark : MethodName := ⟨RL, "nearestMark", "(LBookmarkManager;I[J)I"⟩
theorem dL_nearestMark_0 : decode cL_nearestMark 0 = .ok (.aload_n 2, 1) := by decide +kernel
theorem dL_nearestMark_1 : decode cL_nearestMark 1 = .ok (.iconst 0, 1) := by decide +kernel
theorem dL_nearestMark_2 : decode cL_nearestMark 2 = .ok (.aload_n 0, 1) := by decide +kernel
theorem dL_nearestMark_3 : decode cL_nearestMark 3 = .ok (.iload_n 1, 1) := by decide +kernel
theorem dL_nearestMark_4 : decode cL_nearestMark 4 = .ok (.invokevirtual 65, 3) := by decide +kernel
theorem dL_nearestMark_7 : decode cL_nearestMark 7 = .ok (.i2l, 1) := by decide +kernel
theorem dL_nearestMark_8 : decode cL_nearestMark 8 = .ok (.lastore, 1) := by decide +kernel
theorem dL_nearestMark_9 : decode cL_nearestMark 9 = .ok (.goto 9, 3) := by decide +kernel
theorem dL_nearestMark_12 : decode cL_nearestMark 12 = .ok (.astore_n 3, 1) := by decide +kernel
theorem dL_nearestMark_13 : decode cL_nearestMark 13 = .ok (.iconst 1, 1) := by decide +kernel
theorem dL_nearestMark_14 : decode cL_nearestMark 14 = .ok (.ireturn, 1) := by decide +kernel
theorem dL_nearestMark_15 : decode cL_nearestMark 15 = .ok (.astore_n 3, 1) := by decide +kernel
theorem dL_nearestMark_16 : decode cL_nearestMark 16 = .ok (.iconst 2, 1) := by decide +kernel
theorem dL_nearestMark_17 : decode cL_nearestMark 17 = .ok (.ireturn, 1) := by decide +kernel
theorem dL_nearestMark_18 : decode cL_nearestMark 18 = .ok (.iconst 0, 1) := by decide +kernel
theorem dL_nearestMark_19 : decode cL_nearestMark 19 = .ok (.ireturn, 1) := by decide +kernel
abbrev cL_chapterOf : ByteArray := method_19_code
def yL_chapterOf : MethodName := ⟨RL, "chapterOf", "(LBookmarkManager;I[J)I"⟩
theorem dL_chapterOf_0 : decode cL_chapterOf 0 = .ok (.aload_n 2, 1) := by decide +kernel
theorem dL_chapterOf_1 : decode cL_chapterOf 1 = .ok (.iconst 0, 1) := by decide +kernel
theorem dL_chapterOf_2 : decode cL_chapterOf 2 = .ok (.aload_n 0, 1) := by decide +kernel
theorem dL_chapterOf_3 : decode cL_chapterOf 3 = .ok (.iload_n 1, 1) := by decide +kernel
theorem dL_chapterOf_4 : decode cL_chapterOf 4 = .ok (.invokevirtual 68, 3) := by decide +kernel
theorem dL_chapterOf_7 : decode cL_chapterOf 7 = .ok (.i2l, 1) := by decide +kernel
theorem dL_chapterOf_8 : decode cL_chapterOf 8 = .ok (.lastore, 1) := by decide +kernel
theorem dL_chapterOf_9 : decode cL_chapterOf 9 = .ok (.goto 6, 3) := by decide +kernel
theorem dL_chapterOf_12 : decode cL_chapterOf 12 = .ok (.astore_n 3, 1) := by decide +kernel
theorem dL_chapterOf_13 : decode cL_chapterOf 13 = .ok (.iconst 1, 1) := by decide +kernel
theorem dL_chapterOf_14 : decode cL_chapterOf 14 = .ok (.ireturn, 1) := by decide +kernel
theorem dL_chapterOf_15 : decode cL_chapterOf 15 = .ok (.iconst 0, 1) := by decide +kernel
theorem dL_chapterOf_16 : decode cL_chapterOf 16 = .ok (.ireturn, 1) := by decide +kernel
abbrev cL_startChapter : ByteArray := method_20_code
def yL_startChapter : MethodName := ⟨RL, "startChapter", "(LBookmarkManager;I[J)I"⟩
theorem dL_startChapter_0 : decode cL_startChapter 0 = .ok (.aload_n 2, 1) := by decide +kernel
theorem dL_startChapter_1 : decode cL_startChapter 1 = .ok (.iconst 0, 1) := by decide +kernel
theorem dL_startChapter_2 : decode cL_startChapter 2 = .ok (.aload_n 0, 1) := by decide +kernel
theorem dL_startChapter_3 : decode cL_startChapter 3 = .ok (.iload_n 1, 1) := by decide +kernel
theorem dL_startChapter_4 : decode cL_startChapter 4 = .ok (.invokevirtual 71, 3) := by decide +kernel
theorem dL_startChapter_7 : decode cL_startChapter 7 = .ok (.i2l, 1) := by decide +kernel
theorem dL_startChapter_8 : decode cL_startChapter 8 = .ok (.lastore, 1) := by decide +kernel
theorem dL_startChapter_9 : decode cL_startChapter 9 = .ok (.goto 9, 3) := by decide +kernel
theorem dL_startChapter_12 : decode cL_startChapter 12 = .ok (.astore_n 3, 1) := by decide +kernel
theorem dL_startChapter_13 : decode cL_startChapter 13 = .ok (.iconst 1, 1) := by decide +kernel
theorem dL_startChapter_14 : decode cL_startChapter 14 = .ok (.ireturn, 1) := by decide +kernel
theorem dL_startChapter_15 : decode cL_startChapter 15 = .ok (.astore_n 3, 1) := by decide +kernel
theorem dL_startChapter_16 : decode cL_startChapter 16 = .ok (.iconst 2, 1) := by decide +kernel
theorem dL_startChapter_17 : decode cL_startChapter 17 = .ok (.ireturn, 1) := by decide +kernel
theorem dL_startChapter_18 : decode cL_startChapter 18 = .ok (.iconst 0, 1) := by decide +kernel
theorem dL_startChapter_19 : decode cL_startChapter 19 = .ok (.ireturn, 1) := by decide +kernel
abbrev cL_voteToDissolve : ByteArray := method_21_code
def yL_voteToDissolve : MethodName := ⟨RL, "voteToDissolve", "(LBookmarkManager;I[J)I"⟩
theorem dL_voteToDissolve_0 : decode cL_voteToDissolve 0 = .ok (.aload_n 2, 1) := by decide +kernel
theorem dL_voteToDissolve_1 : decode cL_voteToDissolve 1 = .ok (.iconst 0, 1) := by decide +kernel
theorem dL_voteToDissolve_2 : decode cL_voteToDissolve 2 = .ok (.aload_n 0, 1) := by decide +kernel
theorem dL_voteToDissolve_3 : decode cL_voteToDissolve 3 = .ok (.iload_n 1, 1) := by decide +kernel
theorem dL_voteToDissolve_4 : decode cL_voteToDissolve 4 = .ok (.invokevirtual 74, 3) := by decide +kernel
theorem dL_voteToDissolve_7 : decode cL_voteToDissolve 7 = .ok (.ifCond .eq 7, 3) := by decide +kernel
theorem dL_voteToDissolve_10 : decode cL_voteToDissolve 10 = .ok (.lconst 1, 1) := by decide +kernel
theorem dL_voteToDissolve_11 : decode cL_voteToDissolve 11 = .ok (.goto 4, 3) := by decide +kernel
theorem dL_voteToDissolve_14 : decode cL_voteToDissolve 14 = .ok (.lconst 0, 1) := by decide +kernel
theorem dL_voteToDissolve_15 : decode cL_voteToDissolve 15 = .ok (.lastore, 1) := by decide +kernel
theorem dL_voteToDissolve_16 : decode cL_voteToDissolve 16 = .ok (.goto 9, 3) := by decide +kernel
theorem dL_voteToDissolve_19 : decode cL_voteToDissolve 19 = .ok (.astore_n 3, 1) := by decide +kernel
theorem dL_voteToDissolve_20 : decode cL_voteToDissolve 20 = .ok (.iconst 1, 1) := by decide +kernel
theorem dL_voteToDissolve_21 : decode cL_voteToDissolve 21 = .ok (.ireturn, 1) := by decide +kernel
theorem dL_voteToDissolve_22 : decode cL_voteToDissolve 22 = .ok (.astore_n 3, 1) := by decide +kernel
theorem dL_voteToDissolve_23 : decode cL_voteToDissolve 23 = .ok (.iconst 2, 1) := by decide +kernel
theorem dL_voteToDissolve_24 : decode cL_voteToDissolve 24 = .ok (.ireturn, 1) := by decide +kernel
theorem dL_voteToDissolve_25 : decode cL_voteToDissolve 25 = .ok (.iconst 0, 1) := by decide +kernel
theorem dL_voteToDissolve_26 : decode cL_voteToDissolve 26 = .ok (.ireturn, 1) := by decide +kernel
abbrev cL_firstPage : ByteArray := method_22_code
def yL_firstPage : MethodName := ⟨RL, "firstPage", "(LBookmarkManager;I[J)I"⟩
theorem dL_firstPage_0 : decode cL_firstPage 0 = .ok (.aload_n 2, 1) := by decide +kernel
theorem dL_firstPage_1 : decode cL_firstPage 1 = .ok (.iconst 0, 1) := by decide +kernel
theorem dL_firstPage_2 : decode cL_firstPage 2 = .ok (.aload_n 0, 1) := by decide +kernel
theorem dL_firstPage_3 : decode cL_firstPage 3 = .ok (.iload_n 1, 1) := by decide +kernel
theorem dL_firstPage_4 : decode cL_firstPage 4 = .ok (.invokevirtual 77, 3) := by decide +kernel
theorem dL_firstPage_7 : decode cL_firstPage 7 = .ok (.i2l, 1) := by decide +kernel
theorem dL_firstPage_8 : decode cL_firstPage 8 = .ok (.lastore, 1) := by decide +kernel
theorem dL_firstPage_9 : decode cL_firstPage 9 = .ok (.goto 6, 3) := by decide +kernel
theorem dL_firstPage_12 : decode cL_firstPage 12 = .ok (.astore_n 3, 1) := by decide +kernel
theorem dL_firstPage_13 : decode cL_firstPage 13 = .ok (.iconst 1, 1) := by decide +kernel
theorem dL_firstPage_14 : decode cL_firstPage 14 = .ok (.ireturn, 1) := by decide +kernel
theorem dL_firstPage_15 : decode cL_firstPage 15 = .ok (.iconst 0, 1) := by decide +kernel
theorem dL_firstPage_16 : decode cL_firstPage 16 = .ok (.ireturn, 1) := by decide +kernel
abbrev cL_lastPage : ByteArray := method_23_code
def yL_lastPage : MethodName := ⟨RL, "lastPage", "(LBookmarkManager;I[J)I"⟩
theorem dL_lastPage_0 : decode cL_lastPage 0 = .ok (.aload_n 2, 1) := by decide +kernel
theorem dL_lastPage_1 : decode cL_lastPage 1 = .ok (.iconst 0, 1) := by decide +kernel
theorem dL_lastPage_2 : decode cL_lastPage 2 = .ok (.aload_n 0, 1) := by decide +kernel
theorem dL_lastPage_3 : decode cL_lastPage 3 = .ok (.iload_n 1, 1) := by decide +kernel
theorem dL_lastPage_4 : decode cL_lastPage 4 = .ok (.invokevirtual 80, 3) := by decide +kernel
theorem dL_lastPage_7 : decode cL_lastPage 7 = .ok (.i2l, 1) := by decide +kernel
theorem dL_lastPage_8 : decode cL_lastPage 8 = .ok (.lastore, 1) := by decide +kernel
theorem dL_lastPage_9 : decode cL_lastPage 9 = .ok (.goto 6, 3) := by decide +kernel
theorem dL_lastPage_12 : decode cL_lastPage 12 = .ok (.astore_n 3, 1) := by decide +kernel
theorem dL_lastPage_13 : decode cL_lastPage 13 = .ok (.iconst 1, 1) := by decide +kernel
theorem dL_lastPage_14 : decode cL_lastPage 14 = .ok (.ireturn, 1) := by decide +kernel
theorem dL_lastPage_15 : decode cL_lastPage 15 = .ok (.iconst 0, 1) := by decide +kernel
theorem dL_lastPage_16 : decode cL_lastPage 16 = .ok (.ireturn, 1) := by decide +kernel
abbrev cL_heldPages : ByteArray := method_24_code
def yL_heldPages : MethodName := ⟨RL, "heldPages", "(LBookmarkManager;I[J)I"⟩
theorem dL_heldPages_0 : decode cL_heldPages 0 = .ok (.aload_n 2, 1) := by decide +kernel
theorem dL_heldPages_1 : decode cL_heldPages 1 = .ok (.iconst 0, 1) := by decide +kernel
theorem dL_heldPages_2 : decode cL_heldPages 2 = .ok (.aload_n 0, 1) := by decide +kernel
theorem dL_heldPages_3 : decode cL_heldPages 3 = .ok (.iload_n 1, 1) := by decide +kernel
theorem dL_heldPages_4 : decode cL_heldPages 4 = .ok (.invokevirtual 83, 3) := by decide +kernel
theorem dL_heldPages_7 : decode cL_heldPages 7 = .ok (.i2l, 1) := by decide +kernel
theorem dL_heldPages_8 : decode cL_heldPages 8 = .ok (.lastore, 1) := by decide +kernel
theorem dL_heldPages_9 : decode cL_heldPages 9 = .ok (.goto 6, 3) := by decide +kernel
theorem dL_heldPages_12 : decode cL_heldPages 12 = .ok (.astore_n 3, 1) := by decide +kernel
theorem dL_heldPages_13 : decode cL_heldPages 13 = .ok (.iconst 1, 1) := by decide +kernel
theorem dL_heldPages_14 : decode cL_heldPages 14 = .ok (.ireturn, 1) := by decide +kernel
theorem dL_heldPages_15 : decode cL_heldPages 15 = .ok (.iconst 0, 1) := by decide +kernel
theorem dL_heldPages_16 : decode cL_heldPages 16 = .ok (.ireturn, 1) := by decide +kernel
abbrev cL_heldPagesByMarks : ByteArray := method_25_code
def yL_heldPagesByMarks : MethodName := ⟨RL, "heldPagesByMarks", "(LBookmarkManager;I[J)I"⟩
theorem dL_heldPagesByMarks_0 : decode cL_heldPagesByMarks 0 = .ok (.aload_n 2, 1) := by decide +kernel
theorem dL_heldPagesByMarks_1 : decode cL_heldPagesByMarks 1 = .ok (.iconst 0, 1) := by decide +kernel
theorem dL_heldPagesByMarks_2 : decode cL_heldPagesByMarks 2 = .ok (.aload_n 0, 1) := by decide +kernel
theorem dL_heldPagesByMarks_3 : decode cL_heldPagesByMarks 3 = .ok (.iload_n 1, 1) := by decide +kernel
theorem dL_heldPagesByMarks_4 : decode cL_heldPagesByMarks 4 = .ok (.invokevirtual 86, 3) := by decide +kernel
theorem dL_heldPagesByMarks_7 : decode cL_heldPagesByMarks 7 = .ok (.i2l, 1) := by decide +kernel
theorem dL_heldPagesByMarks_8 : decode cL_heldPagesByMarks 8 = .ok (.lastore, 1) := by decide +kernel
theorem dL_heldPagesByMarks_9 : decode cL_heldPagesByMarks 9 = .ok (.goto 6, 3) := by decide +kernel
theorem dL_heldPagesByMarks_12 : decode cL_heldPagesByMarks 12 = .ok (.astore_n 3, 1) := by decide +kernel
theorem dL_heldPagesByMarks_13 : decode cL_heldPagesByMarks 13 = .ok (.iconst 1, 1) := by decide +kernel
theorem dL_heldPagesByMarks_14 : decode cL_heldPagesByMarks 14 = .ok (.ireturn, 1) := by decide +kernel
theorem dL_heldPagesByMarks_15 : decode cL_heldPagesByMarks 15 = .ok (.iconst 0, 1) := by decide +kernel
theorem dL_heldPagesByMarks_16 : decode cL_heldPagesByMarks 16 = .ok (.ireturn, 1) := by decide +kernel
abbrev cL_chapterWeight : ByteArray := method_26_code
def yL_chapterWeight : MethodName := ⟨RL, "chapterWeight", "(LBookmarkManager;I[J)I"⟩
theorem dL_chapterWeight_0 : decode cL_chapterWeight 0 = .ok (.aload_n 2, 1) := by decide +kernel
theorem dL_chapterWeight_1 : decode cL_chapterWeight 1 = .ok (.iconst 0, 1) := by decide +kernel
theorem dL_chapterWeight_2 : decode cL_chapterWeight 2 = .ok (.aload_n 0, 1) := by decide +kernel
theorem dL_chapterWeight_3 : decode cL_chapterWeight 3 = .ok (.iload_n 1, 1) := by decide +kernel
theorem dL_chapterWeight_4 : decode cL_chapterWeight 4 = .ok (.invokevirtual 89, 3) := by decide +kernel
theorem dL_chapterWeight_7 : decode cL_chapterWeight 7 = .ok (.i2l, 1) := by decide +kernel
theorem dL_chapterWeight_8 : decode cL_chapterWeight 8 = .ok (.lastore, 1) := by decide +kernel
theorem dL_chapterWeight_9 : decode cL_chapterWeight 9 = .ok (.goto 6, 3) := by decide +kernel
theorem dL_chapterWeight_12 : decode cL_chapterWeight 12 = .ok (.astore_n 3, 1) := by decide +kernel
theorem dL_chapterWeight_13 : decode cL_chapterWeight 13 = .ok (.iconst 1, 1) := by decide +kernel
theorem dL_chapterWeight_14 : decode cL_chapterWeight 14 = .ok (.ireturn, 1) := by decide +kernel
theorem dL_chapterWeight_15 : decode cL_chapterWeight 15 = .ok (.iconst 0, 1) := by decide +kernel
theorem dL_chapterWeight_16 : decode cL_chapterWeight 16 = .ok (.ireturn, 1) := by decide +kernel
abbrev cL_weightInFavour : ByteArray := method_27_code
def yL_weightInFavour : MethodName := ⟨RL, "weightInFavour", "(LBookmarkManager;I[J)I"⟩
theorem dL_weightInFavour_0 : decode cL_weightInFavour 0 = .ok (.aload_n 2, 1) := by decide +kernel
theorem dL_weightInFavour_1 : decode cL_weightInFavour 1 = .ok (.iconst 0, 1) := by decide +kernel
theorem dL_weightInFavour_2 : decode cL_weightInFavour 2 = .ok (.aload_n 0, 1) := by decide +kernel
theorem dL_weightInFavour_3 : decode cL_weightInFavour 3 = .ok (.iload_n 1, 1) := by decide +kernel
theorem dL_weightInFavour_4 : decode cL_weightInFavour 4 = .ok (.invokevirtual 92, 3) := by decide +kernel
theorem dL_weightInFavour_7 : decode cL_weightInFavour 7 = .ok (.i2l, 1) := by decide +kernel
theorem dL_weightInFavour_8 : decode cL_weightInFavour 8 = .ok (.lastore, 1) := by decide +kernel
theorem dL_weightInFavour_9 : decode cL_weightInFavour 9 = .ok (.goto 6, 3) := by decide +kernel
theorem dL_weightInFavour_12 : decode cL_weightInFavour 12 = .ok (.astore_n 3, 1) := by decide +kernel
theorem dL_weightInFavour_13 : decode cL_weightInFavour 13 = .ok (.iconst 1, 1) := by decide +kernel
theorem dL_weightInFavour_14 : decode cL_weightInFavour 14 = .ok (.ireturn, 1) := by decide +kernel
theorem dL_weightInFavour_15 : decode cL_weightInFavour 15 = .ok (.iconst 0, 1) := by decide +kernel
theorem dL_weightInFavour_16 : decode cL_weightInFavour 16 = .ok (.ireturn, 1) := by decide +kernel
abbrev cL_weightAgainst : ByteArray := method_28_code
def yL_weightAgainst : MethodName := ⟨RL, "weightAgainst", "(LBookmarkManager;I[J)I"⟩
theorem dL_weightAgainst_0 : decode cL_weightAgainst 0 = .ok (.aload_n 2, 1) := by decide +kernel
theorem dL_weightAgainst_1 : decode cL_weightAgainst 1 = .ok (.iconst 0, 1) := by decide +kernel
theorem dL_weightAgainst_2 : decode cL_weightAgainst 2 = .ok (.aload_n 0, 1) := by decide +kernel
theorem dL_weightAgainst_3 : decode cL_weightAgainst 3 = .ok (.iload_n 1, 1) := by decide +kernel
theorem dL_weightAgainst_4 : decode cL_weightAgainst 4 = .ok (.invokevirtual 95, 3) := by decide +kernel
theorem dL_weightAgainst_7 : decode cL_weightAgainst 7 = .ok (.i2l, 1) := by decide +kernel
theorem dL_weightAgainst_8 : decode cL_weightAgainst 8 = .ok (.lastore, 1) := by decide +kernel
theorem dL_weightAgainst_9 : decode cL_weightAgainst 9 = .ok (.goto 6, 3) := by decide +kernel
theorem dL_weightAgainst_12 : decode cL_weightAgainst 12 = .ok (.astore_n 3, 1) := by decide +kernel
theorem dL_weightAgainst_13 : decode cL_weightAgainst 13 = .ok (.iconst 1, 1) := by decide +kernel
theorem dL_weightAgainst_14 : decode cL_weightAgainst 14 = .ok (.ireturn, 1) := by decide +kernel
theorem dL_weightAgainst_15 : decode cL_weightAgainst 15 = .ok (.iconst 0, 1) := by decide +kernel
theorem dL_weightAgainst_16 : decode cL_weightAgainst 16 = .ok (.ireturn, 1) := by decide +kernel
abbrev cL_weightAgainstByTotal : ByteArray := method_29_code
def yL_weightAgainstByTotal : MethodName := ⟨RL, "weightAgainstByTotal", "(LBookmarkManager;I[J)I"⟩
theorem dL_weightAgainstByTotal_0 : decode cL_weightAgainstByTotal 0 = .ok (.aload_n 2, 1) := by decide +kernel
theorem dL_weightAgainstByTotal_1 : decode cL_weightAgainstByTotal 1 = .ok (.iconst 0, 1) := by decide +kernel
theorem dL_weightAgainstByTotal_2 : decode cL_weightAgainstByTotal 2 = .ok (.aload_n 0, 1) := by decide +kernel
theorem dL_weightAgainstByTotal_3 : decode cL_weightAgainstByTotal 3 = .ok (.iload_n 1, 1) := by decide +kernel
theorem dL_weightAgainstByTotal_4 : decode cL_weightAgainstByTotal 4 = .ok (.invokevirtual 98, 3) := by decide +kernel
theorem dL_weightAgainstByTotal_7 : decode cL_weightAgainstByTotal 7 = .ok (.i2l, 1) := by decide +kernel
theorem dL_weightAgainstByTotal_8 : decode cL_weightAgainstByTotal 8 = .ok (.lastore, 1) := by decide +kernel
theorem dL_weightAgainstByTotal_9 : decode cL_weightAgainstByTotal 9 = .ok (.goto 6, 3) := by decide +kernel
theorem dL_weightAgainstByTotal_12 : decode cL_weightAgainstByTotal 12 = .ok (.astore_n 3, 1) := by decide +kernel
theorem dL_weightAgainstByTotal_13 : decode cL_weightAgainstByTotal 13 = .ok (.iconst 1, 1) := by decide +kernel
theorem dL_weightAgainstByTotal_14 : decode cL_weightAgainstByTotal 14 = .ok (.ireturn, 1) := by decide +kernel
theorem dL_weightAgainstByTotal_15 : decode cL_weightAgainstByTotal 15 = .ok (.iconst 0, 1) := by decide +kernel
theorem dL_weightAgainstByTotal_16 : decode cL_weightAgainstByTotal 16 = .ok (.ireturn, 1) := by decide +kernel
abbrev cL_wouldDissolve : ByteArray := method_30_code
def yL_wouldDissolve : MethodName := ⟨RL, "wouldDissolve", "(LBookmarkManager;I[J)I"⟩
theorem dL_wouldDissolve_0 : decode cL_wouldDissolve 0 = .ok (.aload_n 2, 1) := by decide +kernel
theorem dL_wouldDissolve_1 : decode cL_wouldDissolve 1 = .ok (.iconst 0, 1) := by decide +kernel
theorem dL_wouldDissolve_2 : decode cL_wouldDissolve 2 = .ok (.aload_n 0, 1) := by decide +kernel
theorem dL_wouldDissolve_3 : decode cL_wouldDissolve 3 = .ok (.iload_n 1, 1) := by decide +kernel
theorem dL_wouldDissolve_4 : decode cL_wouldDissolve 4 = .ok (.invokevirtual 101, 3) := by decide +kernel
theorem dL_wouldDissolve_7 : decode cL_wouldDissolve 7 = .ok (.ifCond .eq 7, 3) := by decide +kernel
theorem dL_wouldDissolve_10 : decode cL_wouldDissolve 10 = .ok (.lconst 1, 1) := by decide +kernel
theorem dL_wouldDissolve_11 : decode cL_wouldDissolve 11 = .ok (.goto 4, 3) := by decide +kernel
theorem dL_wouldDissolve_14 : decode cL_wouldDissolve 14 = .ok (.lconst 0, 1) := by decide +kernel
theorem dL_wouldDissolve_15 : decode cL_wouldDissolve 15 = .ok (.lastore, 1) := by decide +kernel
theorem dL_wouldDissolve_16 : decode cL_wouldDissolve 16 = .ok (.goto 6, 3) := by decide +kernel
theorem dL_wouldDissolve_19 : decode cL_wouldDissolve 19 = .ok (.astore_n 3, 1) := by decide +kernel
theorem dL_wouldDissolve_20 : decode cL_wouldDissolve 20 = .ok (.iconst 1, 1) := by decide +kernel
theorem dL_wouldDissolve_21 : decode cL_wouldDissolve 21 = .ok (.ireturn, 1) := by decide +kernel
theorem dL_wouldDissolve_22 : decode cL_wouldDissolve 22 = .ok (.iconst 0, 1) := by decide +kernel
theorem dL_wouldDissolve_23 : decode cL_wouldDissolve 23 = .ok (.ireturn, 1) := by decide +kernel
abbrev cL_turnPages : ByteArray := method_31_code
def yL_turnPages : MethodName := ⟨RL, "turnPages", "(LBookmarkManager;IZ[J)I"⟩
theorem dL_turnPages_0 : decode cL_turnPages 0 = .ok (.aload_n 3, 1) := by decide +kernel
theorem dL_turnPages_1 : decode cL_turnPages 1 = .ok (.iconst 0, 1) := by decide +kernel
theorem dL_turnPages_2 : decode cL_turnPages 2 = .ok (.aload_n 0, 1) := by decide +kernel
theorem dL_turnPages_3 : decode cL_turnPages 3 = .ok (.iload_n 1, 1) := by decide +kernel
theorem dL_turnPages_4 : decode cL_turnPages 4 = .ok (.iload_n 2, 1) := by decide +kernel
theorem dL_turnPages_5 : decode cL_turnPages 5 = .ok (.invokevirtual 104, 3) := by decide +kernel
theorem dL_turnPages_8 : decode cL_turnPages 8 = .ok (.i2l, 1) := by decide +kernel
theorem dL_turnPages_9 : decode cL_turnPages 9 = .ok (.lastore, 1) := by decide +kernel
theorem dL_turnPages_10 : decode cL_turnPages 10 = .ok (.goto 11, 3) := by decide +kernel
theorem dL_turnPages_13 : decode cL_turnPages 13 = .ok (.astore 4, 2) := by decide +kernel
theorem dL_turnPages_15 : decode cL_turnPages 15 = .ok (.iconst 1, 1) := by decide +kernel
theorem dL_turnPages_16 : decode cL_turnPages 16 = .ok (.ireturn, 1) := by decide +kernel
theorem dL_turnPages_17 : decode cL_turnPages 17 = .ok (.astore 4, 2) := by decide +kernel
theorem dL_turnPages_19 : decode cL_turnPages 19 = .ok (.iconst 2, 1) := by decide +kernel
theorem dL_turnPages_20 : decode cL_turnPages 20 = .ok (.ireturn, 1) := by decide +kernel
theorem dL_turnPages_21 : decode cL_turnPages 21 = .ok (.iconst 0, 1) := by decide +kernel
theorem dL_turnPages_22 : decode cL_turnPages 22 = .ok (.ireturn, 1) := by decide +kernel
abbrev cL_pagesToNextMark : ByteArray := method_32_code
def yL_pagesToNextMark : MethodName := ⟨RL, "pagesToNextMark", "(LBookmarkManager;[J)I"⟩
theorem dL_pagesToNextMark_0 : decode cL_pagesToNextMark 0 = .ok (.aload_n 1, 1) := by decide +kernel
theorem dL_pagesToNextMark_1 : decode cL_pagesToNextMark 1 = .ok (.iconst 0, 1) := by decide +kernel
theorem dL_pagesToNextMark_2 : decode cL_pagesToNextMark 2 = .ok (.aload_n 0, 1) := by decide +kernel
theorem dL_pagesToNextMark_3 : decode cL_pagesToNextMark 3 = .ok (.invokevirtual 108, 3) := by decide +kernel
theorem dL_pagesToNextMark_6 : decode cL_pagesToNextMark 6 = .ok (.i2l, 1) := by decide +kernel
theorem dL_pagesToNextMark_7 : decode cL_pagesToNextMark 7 = .ok (.lastore, 1) := by decide +kernel
theorem dL_pagesToNextMark_8 : decode cL_pagesToNextMark 8 = .ok (.goto 6, 3) := by decide +kernel
theorem dL_pagesToNextMark_11 : decode cL_pagesToNextMark 11 = .ok (.astore_n 2, 1) := by decide +kernel
theorem dL_pagesToNextMark_12 : decode cL_pagesToNextMark 12 = .ok (.iconst 1, 1) := by decide +kernel
theorem dL_pagesToNextMark_13 : decode cL_pagesToNextMark 13 = .ok (.ireturn, 1) := by decide +kernel
theorem dL_pagesToNextMark_14 : decode cL_pagesToNextMark 14 = .ok (.iconst 0, 1) := by decide +kernel
theorem dL_pagesToNextMark_15 : decode cL_pagesToNextMark 15 = .ok (.ireturn, 1) := by decide +kernel
abbrev cL_earsAtRisk : ByteArray := method_33_code
def yL_earsAtRisk : MethodName := ⟨RL, "earsAtRisk", "(LBookmarkManager;IZ[J)I"⟩
theorem dL_earsAtRisk_0 : decode cL_earsAtRisk 0 = .ok (.aload_n 3, 1) := by decide +kernel
theorem dL_earsAtRisk_1 : decode cL_earsAtRisk 1 = .ok (.iconst 0, 1) := by decide +kernel
theorem dL_earsAtRisk_2 : decode cL_earsAtRisk 2 = .ok (.aload_n 0, 1) := by decide +kernel
theorem dL_earsAtRisk_3 : decode cL_earsAtRisk 3 = .ok (.iload_n 1, 1) := by decide +kernel
theorem dL_earsAtRisk_4 : decode cL_earsAtRisk 4 = .ok (.iload_n 2, 1) := by decide +kernel
theorem dL_earsAtRisk_5 : decode cL_earsAtRisk 5 = .ok (.invokevirtual 112, 3) := by decide +kernel
theorem dL_earsAtRisk_8 : decode cL_earsAtRisk 8 = .ok (.i2l, 1) := by decide +kernel
theorem dL_earsAtRisk_9 : decode cL_earsAtRisk 9 = .ok (.lastore, 1) := by decide +kernel
theorem dL_earsAtRisk_10 : decode cL_earsAtRisk 10 = .ok (.goto 7, 3) := by decide +kernel
theorem dL_earsAtRisk_13 : decode cL_earsAtRisk 13 = .ok (.astore 4, 2) := by decide +kernel
theorem dL_earsAtRisk_15 : decode cL_earsAtRisk 15 = .ok (.iconst 1, 1) := by decide +kernel
theorem dL_earsAtRisk_16 : decode cL_earsAtRisk 16 = .ok (.ireturn, 1) := by decide +kernel
theorem dL_earsAtRisk_17 : decode cL_earsAtRisk 17 = .ok (.iconst 0, 1) := by decide +kernel
theorem dL_earsAtRisk_18 : decode cL_earsAtRisk 18 = .ok (.ireturn, 1) := by decide +kernel
abbrev cL_markByPage : ByteArray := method_34_code
def yL_markByPage : MethodName := ⟨RL, "markByPage", "(LBookmarkManager;I[J)I"⟩
theorem dL_markByPage_0 : decode cL_markByPage 0 = .ok (.aload_n 2, 1) := by decide +kernel
theorem dL_markByPage_1 : decode cL_markByPage 1 = .ok (.iconst 0, 1) := by decide +kernel
theorem dL_markByPage_2 : decode cL_markByPage 2 = .ok (.aload_n 0, 1) := by decide +kernel
theorem dL_markByPage_3 : decode cL_markByPage 3 = .ok (.iload_n 1, 1) := by decide +kernel
theorem dL_markByPage_4 : decode cL_markByPage 4 = .ok (.invokevirtual 115, 3) := by decide +kernel
theorem dL_markByPage_7 : decode cL_markByPage 7 = .ok (.i2l, 1) := by decide +kernel
theorem dL_markByPage_8 : decode cL_markByPage 8 = .ok (.lastore, 1) := by decide +kernel
theorem dL_markByPage_9 : decode cL_markByPage 9 = .ok (.goto 6, 3) := by decide +kernel
theorem dL_markByPage_12 : decode cL_markByPage 12 = .ok (.astore_n 3, 1) := by decide +kernel
theorem dL_markByPage_13 : decode cL_markByPage 13 = .ok (.iconst 1, 1) := by decide +kernel
theorem dL_markByPage_14 : decode cL_markByPage 14 = .ok (.ireturn, 1) := by decide +kernel
theorem dL_markByPage_15 : decode cL_markByPage 15 = .ok (.iconst 0, 1) := by decide +kernel
theorem dL_markByPage_16 : decode cL_markByPage 16 = .ok (.ireturn, 1) := by decide +kernel
abbrev cL_markByWeight : ByteArray := method_35_code
def yL_markByWeight : MethodName := ⟨RL, "markByWeight", "(LBookmarkManager;I[J)I"⟩
theorem dL_markByWeight_0 : decode cL_markByWeight 0 = .ok (.aload_n 2, 1) := by decide +kernel
theorem dL_markByWeight_1 : decode cL_markByWeight 1 = .ok (.iconst 0, 1) := by decide +kernel
theorem dL_markByWeight_2 : decode cL_markByWeight 2 = .ok (.aload_n 0, 1) := by decide +kernel
theorem dL_markByWeight_3 : decode cL_markByWeight 3 = .ok (.iload_n 1, 1) := by decide +kernel
theorem dL_markByWeight_4 : decode cL_markByWeight 4 = .ok (.invokevirtual 118, 3) := by decide +kernel
theorem dL_markByWeight_7 : decode cL_markByWeight 7 = .ok (.i2l, 1) := by decide +kernel
theorem dL_markByWeight_8 : decode cL_markByWeight 8 = .ok (.lastore, 1) := by decide +kernel
theorem dL_markByWeight_9 : decode cL_markByWeight 9 = .ok (.goto 6, 3) := by decide +kernel
theorem dL_markByWeight_12 : decode cL_markByWeight 12 = .ok (.astore_n 3, 1) := by decide +kernel
theorem dL_markByWeight_13 : decode cL_markByWeight 13 = .ok (.iconst 1, 1) := by decide +kernel
theorem dL_markByWeight_14 : decode cL_markByWeight 14 = .ok (.ireturn, 1) := by decide +kernel
theorem dL_markByWeight_15 : decode cL_markByWeight 15 = .ok (.iconst 0, 1) := by decide +kernel
theorem dL_markByWeight_16 : decode cL_markByWeight 16 = .ok (.ireturn, 1) := by decide +kernel
abbrev cL_meanWeight : ByteArray := method_36_code
def yL_meanWeight : MethodName := ⟨RL, "meanWeight", "(LBookmarkManager;[D)I"⟩
theorem dL_meanWeight_0 : decode cL_meanWeight 0 = .ok (.aload_n 1, 1) := by decide +kernel
theorem dL_meanWeight_1 : decode cL_meanWeight 1 = .ok (.iconst 0, 1) := by decide +kernel
theorem dL_meanWeight_2 : decode cL_meanWeight 2 = .ok (.aload_n 0, 1) := by decide +kernel
theorem dL_meanWeight_3 : decode cL_meanWeight 3 = .ok (.invokevirtual 121, 3) := by decide +kernel
theorem dL_meanWeight_6 : decode cL_meanWeight 6 = .ok (.dastore, 1) := by decide +kernel
theorem dL_meanWeight_7 : decode cL_meanWeight 7 = .ok (.goto 6, 3) := by decide +kernel
theorem dL_meanWeight_10 : decode cL_meanWeight 10 = .ok (.astore_n 2, 1) := by decide +kernel
theorem dL_meanWeight_11 : decode cL_meanWeight 11 = .ok (.iconst 1, 1) := by decide +kernel
theorem dL_meanWeight_12 : decode cL_meanWeight 12 = .ok (.ireturn, 1) := by decide +kernel
theorem dL_meanWeight_13 : decode cL_meanWeight 13 = .ok (.iconst 0, 1) := by decide +kernel
theorem dL_meanWeight_14 : decode cL_meanWeight 14 = .ok (.ireturn, 1) := by decide +kernel
abbrev cL_heldShare : ByteArray := method_37_code
def yL_heldShare : MethodName := ⟨RL, "heldShare", "(LBookmarkManager;I[D)I"⟩
theorem dL_heldShare_0 : decode cL_heldShare 0 = .ok (.aload_n 2, 1) := by decide +kernel
theorem dL_heldShare_1 : decode cL_heldShare 1 = .ok (.iconst 0, 1) := by decide +kernel
theorem dL_heldShare_2 : decode cL_heldShare 2 = .ok (.aload_n 0, 1) := by decide +kernel
theorem dL_heldShare_3 : decode cL_heldShare 3 = .ok (.iload_n 1, 1) := by decide +kernel
theorem dL_heldShare_4 : decode cL_heldShare 4 = .ok (.invokevirtual 127, 3) := by decide +kernel
theorem dL_heldShare_7 : decode cL_heldShare 7 = .ok (.f2d, 1) := by decide +kernel
theorem dL_heldShare_8 : decode cL_heldShare 8 = .ok (.dastore, 1) := by decide +kernel
theorem dL_heldShare_9 : decode cL_heldShare 9 = .ok (.goto 6, 3) := by decide +kernel
theorem dL_heldShare_12 : decode cL_heldShare 12 = .ok (.astore_n 3, 1) := by decide +kernel
theorem dL_heldShare_13 : decode cL_heldShare 13 = .ok (.iconst 1, 1) := by decide +kernel
theorem dL_heldShare_14 : decode cL_heldShare 14 = .ok (.ireturn, 1) := by decide +kernel
theorem dL_heldShare_15 : decode cL_heldShare 15 = .ok (.iconst 0, 1) := by decide +kernel
theorem dL_heldShare_16 : decode cL_heldShare 16 = .ok (.ireturn, 1) := by decide +kernel
abbrev cL_writeChapter : ByteArray := method_38_code
def yL_writeChapter : MethodName := ⟨RL, "writeChapter", "(LBookmarkManager;I[J)I"⟩
theorem dL_writeChapter_0 : decode cL_writeChapter 0 = .ok (.aload_n 2, 1) := by decide +kernel
theorem dL_writeChapter_1 : decode cL_writeChapter 1 = .ok (.iconst 0, 1) := by decide +kernel
theorem dL_writeChapter_2 : decode cL_writeChapter 2 = .ok (.aload_n 0, 1) := by decide +kernel
theorem dL_writeChapter_3 : decode cL_writeChapter 3 = .ok (.iload_n 1, 1) := by decide +kernel
theorem dL_writeChapter_4 : decode cL_writeChapter 4 = .ok (.invokevirtual 131, 3) := by decide +kernel
theorem dL_writeChapter_7 : decode cL_writeChapter 7 = .ok (.i2l, 1) := by decide +kernel
theorem dL_writeChapter_8 : decode cL_writeChapter 8 = .ok (.lastore, 1) := by decide +kernel
theorem dL_writeChapter_9 : decode cL_writeChapter 9 = .ok (.goto 6, 3) := by decide +kernel
theorem dL_writeChapter_12 : decode cL_writeChapter 12 = .ok (.astore_n 3, 1) := by decide +kernel
theorem dL_writeChapter_13 : decode cL_writeChapter 13 = .ok (.iconst 1, 1) := by decide +kernel
theorem dL_writeChapter_14 : decode cL_writeChapter 14 = .ok (.ireturn, 1) := by decide +kernel
theorem dL_writeChapter_15 : decode cL_writeChapter 15 = .ok (.iconst 0, 1) := by decide +kernel
theorem dL_writeChapter_16 : decode cL_writeChapter 16 = .ok (.ireturn, 1) := by decide +kernel
abbrev cL_outputAt : ByteArray := method_39_code
def yL_outputAt : MethodName := ⟨RL, "outputAt", "(LBookmarkManager;I[J)I"⟩
theorem dL_outputAt_0 : decode cL_outputAt 0 = .ok (.aload_n 2, 1) := by decide +kernel
theorem dL_outputAt_1 : decode cL_outputAt 1 = .ok (.iconst 0, 1) := by decide +kernel
theorem dL_outputAt_2 : decode cL_outputAt 2 = .ok (.aload_n 0, 1) := by decide +kernel
theorem dL_outputAt_3 : decode cL_outputAt 3 = .ok (.iload_n 1, 1) := by decide +kernel
theorem dL_outputAt_4 : decode cL_outputAt 4 = .ok (.invokevirtual 134, 3) := by decide +kernel
theorem dL_outputAt_7 : decode cL_outputAt 7 = .ok (.i2l, 1) := by decide +kernel
theorem dL_outputAt_8 : decode cL_outputAt 8 = .ok (.lastore, 1) := by decide +kernel
theorem dL_outputAt_9 : decode cL_outputAt 9 = .ok (.goto 6, 3) := by decide +kernel
theorem dL_outputAt_12 : decode cL_outputAt 12 = .ok (.astore_n 3, 1) := by decide +kernel
theorem dL_outputAt_13 : decode cL_outputAt 13 = .ok (.iconst 1, 1) := by decide +kernel
theorem dL_outputAt_14 : decode cL_outputAt 14 = .ok (.ireturn, 1) := by decide +kernel
theorem dL_outputAt_15 : decode cL_outputAt 15 = .ok (.iconst 0, 1) := by decide +kernel
theorem dL_outputAt_16 : decode cL_outputAt 16 = .ok (.ireturn, 1) := by decide +kernel
abbrev cL_appendInput : ByteArray := method_40_code
def yL_appendInput : MethodName := ⟨RL, "appendInput", "(LBookmarkManager;C[J)I"⟩
theorem dL_appendInput_0 : decode cL_appendInput 0 = .ok (.aload_n 2, 1) := by decide +kernel
theorem dL_appendInput_1 : decode cL_appendInput 1 = .ok (.iconst 0, 1) := by decide +kernel
theorem dL_appendInput_2 : decode cL_appendInput 2 = .ok (.aload_n 0, 1) := by decide +kernel
theorem dL_appendInput_3 : decode cL_appendInput 3 = .ok (.iload_n 1, 1) := by decide +kernel
theorem dL_appendInput_4 : decode cL_appendInput 4 = .ok (.invokevirtual 138, 3) := by decide +kernel
theorem dL_appendInput_7 : decode cL_appendInput 7 = .ok (.i2l, 1) := by decide +kernel
theorem dL_appendInput_8 : decode cL_appendInput 8 = .ok (.lastore, 1) := by decide +kernel
theorem dL_appendInput_9 : decode cL_appendInput 9 = .ok (.goto 9, 3) := by decide +kernel
theorem dL_appendInput_12 : decode cL_appendInput 12 = .ok (.astore_n 3, 1) := by decide +kernel
theorem dL_appendInput_13 : decode cL_appendInput 13 = .ok (.iconst 1, 1) := by decide +kernel
theorem dL_appendInput_14 : decode cL_appendInput 14 = .ok (.ireturn, 1) := by decide +kernel
theorem dL_appendInput_15 : decode cL_appendInput 15 = .ok (.astore_n 3, 1) := by decide +kernel
theorem dL_appendInput_16 : decode cL_appendInput 16 = .ok (.iconst 2, 1) := by decide +kernel
theorem dL_appendInput_17 : decode cL_appendInput 17 = .ok (.ireturn, 1) := by decide +kernel
theorem dL_appendInput_18 : decode cL_appendInput 18 = .ok (.iconst 0, 1) := by decide +kernel
theorem dL_appendInput_19 : decode cL_appendInput 19 = .ok (.ireturn, 1) := by decide +kernel
abbrev cL_execute : ByteArray := method_41_code
def yL_execute : MethodName := ⟨RL, "execute", "(LBookmarkManager;[J)I"⟩
theorem dL_execute_0 : decode cL_execute 0 = .ok (.aload_n 1, 1) := by decide +kernel
theorem dL_execute_1 : decode cL_execute 1 = .ok (.iconst 0, 1) := by decide +kernel
theorem dL_execute_2 : decode cL_execute 2 = .ok (.aload_n 0, 1) := by decide +kernel
theorem dL_execute_3 : decode cL_execute 3 = .ok (.invokevirtual 144, 3) := by decide +kernel
theorem dL_execute_6 : decode cL_execute 6 = .ok (.i2l, 1) := by decide +kernel
theorem dL_execute_7 : decode cL_execute 7 = .ok (.lastore, 1) := by decide +kernel
theorem dL_execute_8 : decode cL_execute 8 = .ok (.goto 12, 3) := by decide +kernel
theorem dL_execute_11 : decode cL_execute 11 = .ok (.astore_n 2, 1) := by decide +kernel
theorem dL_execute_12 : decode cL_execute 12 = .ok (.iconst 1, 1) := by decide +kernel
theorem dL_execute_13 : decode cL_execute 13 = .ok (.ireturn, 1) := by decide +kernel
theorem dL_execute_14 : decode cL_execute 14 = .ok (.astore_n 2, 1) := by decide +kernel
theorem dL_execute_15 : decode cL_execute 15 = .ok (.iconst 2, 1) := by decide +kernel
theorem dL_execute_16 : decode cL_execute 16 = .ok (.ireturn, 1) := by decide +kernel
theorem dL_execute_17 : decode cL_execute 17 = .ok (.astore_n 2, 1) := by decide +kernel
theorem dL_execute_18 : decode cL_execute 18 = .ok (.iconst 3, 1) := by decide +kernel
theorem dL_execute_19 : decode cL_execute 19 = .ok (.ireturn, 1) := by decide +kernel
theorem dL_execute_20 : decode cL_execute 20 = .ok (.iconst 0, 1) := by decide +kernel
theorem dL_execute_21 : decode cL_execute 21 = .ok (.ireturn, 1) := by decide +kernel
abbrev cL_syntaxErrorOffset : ByteArray := method_42_code
def yL_syntaxErrorOffset : MethodName := ⟨RL, "syntaxErrorOffset", "(LBookmarkManager;[J)I"⟩
theorem dL_syntaxErrorOffset_0 : decode cL_syntaxErrorOffset 0 = .ok (.aload_n 1, 1) := by decide +kernel
theorem dL_syntaxErrorOffset_1 : decode cL_syntaxErrorOffset 1 = .ok (.iconst 0, 1) := by decide +kernel
theorem dL_syntaxErrorOffset_2 : decode cL_syntaxErrorOffset 2 = .ok (.aload_n 0, 1) := by decide +kernel
theorem dL_syntaxErrorOffset_3 : decode cL_syntaxErrorOffset 3 = .ok (.invokevirtual 147, 3) := by decide +kernel
theorem dL_syntaxErrorOffset_6 : decode cL_syntaxErrorOffset 6 = .ok (.i2l, 1) := by decide +kernel
theorem dL_syntaxErrorOffset_7 : decode cL_syntaxErrorOffset 7 = .ok (.lastore, 1) := by decide +kernel
theorem dL_syntaxErrorOffset_8 : decode cL_syntaxErrorOffset 8 = .ok (.goto 6, 3) := by decide +kernel
theorem dL_syntaxErrorOffset_11 : decode cL_syntaxErrorOffset 11 = .ok (.astore_n 2, 1) := by decide +kernel
theorem dL_syntaxErrorOffset_12 : decode cL_syntaxErrorOffset 12 = .ok (.iconst 1, 1) := by decide +kernel
theorem dL_syntaxErrorOffset_13 : decode cL_syntaxErrorOffset 13 = .ok (.ireturn, 1) := by decide +kernel
theorem dL_syntaxErrorOffset_14 : decode cL_syntaxErrorOffset 14 = .ok (.iconst 0, 1) := by decide +kernel
theorem dL_syntaxErrorOffset_15 : decode cL_syntaxErrorOffset 15 = .ok (.ireturn, 1) := by decide +kernel
abbrev cL_rejectionReason : ByteArray := method_43_code
def yL_rejectionReason : MethodName := ⟨RL, "rejectionReason", "(LBookmarkManager;[J)I"⟩
theorem dL_rejectionReason_0 : decode cL_rejectionReason 0 = .ok (.aload_n 1, 1) := by decide +kernel
theorem dL_rejectionReason_1 : decode cL_rejectionReason 1 = .ok (.iconst 0, 1) := by decide +kernel
theorem dL_rejectionReason_2 : decode cL_rejectionReason 2 = .ok (.aload_n 0, 1) := by decide +kernel
theorem dL_rejectionReason_3 : decode cL_rejectionReason 3 = .ok (.invokevirtual 150, 3) := by decide +kernel
theorem dL_rejectionReason_6 : decode cL_rejectionReason 6 = .ok (.i2l, 1) := by decide +kernel
theorem dL_rejectionReason_7 : decode cL_rejectionReason 7 = .ok (.lastore, 1) := by decide +kernel
theorem dL_rejectionReason_8 : decode cL_rejectionReason 8 = .ok (.goto 6, 3) := by decide +kernel
theorem dL_rejectionReason_11 : decode cL_rejectionReason 11 = .ok (.astore_n 2, 1) := by decide +kernel
theorem dL_rejectionReason_12 : decode cL_rejectionReason 12 = .ok (.iconst 1, 1) := by decide +kernel
theorem dL_rejectionReason_13 : decode cL_rejectionReason 13 = .ok (.ireturn, 1) := by decide +kernel
theorem dL_rejectionReason_14 : decode cL_rejectionReason 14 = .ok (.iconst 0, 1) := by decide +kernel
theorem dL_rejectionReason_15 : decode cL_rejectionReason 15 = .ok (.ireturn, 1) := by decide +kernel
abbrev cL_rejectionDetail : ByteArray := method_44_code
def yL_rejectionDetail : MethodName := ⟨RL, "rejectionDetail", "(LBookmarkManager;[J)I"⟩
theorem dL_rejectionDetail_0 : decode cL_rejectionDetail 0 = .ok (.aload_n 1, 1) := by decide +kernel
theorem dL_rejectionDetail_1 : decode cL_rejectionDetail 1 = .ok (.iconst 0, 1) := by decide +kernel
theorem dL_rejectionDetail_2 : decode cL_rejectionDetail 2 = .ok (.aload_n 0, 1) := by decide +kernel
theorem dL_rejectionDetail_3 : decode cL_rejectionDetail 3 = .ok (.invokevirtual 153, 3) := by decide +kernel
theorem dL_rejectionDetail_6 : decode cL_rejectionDetail 6 = .ok (.i2l, 1) := by decide +kernel
theorem dL_rejectionDetail_7 : decode cL_rejectionDetail 7 = .ok (.lastore, 1) := by decide +kernel
theorem dL_rejectionDetail_8 : decode cL_rejectionDetail 8 = .ok (.goto 6, 3) := by decide +kernel
theorem dL_rejectionDetail_11 : decode cL_rejectionDetail 11 = .ok (.astore_n 2, 1) := by decide +kernel
theorem dL_rejectionDetail_12 : decode cL_rejectionDetail 12 = .ok (.iconst 1, 1) := by decide +kernel
theorem dL_rejectionDetail_13 : decode cL_rejectionDetail 13 = .ok (.ireturn, 1) := by decide +kernel
theorem dL_rejectionDetail_14 : decode cL_rejectionDetail 14 = .ok (.iconst 0, 1) := by decide +kernel
theorem dL_rejectionDetail_15 : decode cL_rejectionDetail 15 = .ok (.ireturn, 1) := by decide +kernel
abbrev cL_causeReason : ByteArray := method_45_code
def yL_causeReason : MethodName := ⟨RL, "causeReason", "(LBookmarkManager;[J)I"⟩
theorem dL_causeReason_0 : decode cL_causeReason 0 = .ok (.aload_n 1, 1) := by decide +kernel
theorem dL_causeReason_1 : decode cL_causeReason 1 = .ok (.iconst 0, 1) := by decide +kernel
theorem dL_causeReason_2 : decode cL_causeReason 2 = .ok (.aload_n 0, 1) := by decide +kernel
theorem dL_causeReason_3 : decode cL_causeReason 3 = .ok (.invokevirtual 156, 3) := by decide +kernel
theorem dL_causeReason_6 : decode cL_causeReason 6 = .ok (.i2l, 1) := by decide +kernel
theorem dL_causeReason_7 : decode cL_causeReason 7 = .ok (.lastore, 1) := by decide +kernel
theorem dL_causeReason_8 : decode cL_causeReason 8 = .ok (.goto 6, 3) := by decide +kernel
theorem dL_causeReason_11 : decode cL_causeReason 11 = .ok (.astore_n 2, 1) := by decide +kernel
theorem dL_causeReason_12 : decode cL_causeReason 12 = .ok (.iconst 1, 1) := by decide +kernel
theorem dL_causeReason_13 : decode cL_causeReason 13 = .ok (.ireturn, 1) := by decide +kernel
theorem dL_causeReason_14 : decode cL_causeReason 14 = .ok (.iconst 0, 1) := by decide +kernel
theorem dL_causeReason_15 : decode cL_causeReason 15 = .ok (.ireturn, 1) := by decide +kernel
abbrev cL_undo : ByteArray := method_46_code
def yL_undo : MethodName := ⟨RL, "undo", "(LBookmarkManager;[J)I"⟩
theorem dL_undo_0 : decode cL_undo 0 = .ok (.aload_n 1, 1) := by decide +kernel
theorem dL_undo_1 : decode cL_undo 1 = .ok (.iconst 0, 1) := by decide +kernel
theorem dL_undo_2 : decode cL_undo 2 = .ok (.aload_n 0, 1) := by decide +kernel
theorem dL_undo_3 : decode cL_undo 3 = .ok (.invokevirtual 159, 3) := by decide +kernel
theorem dL_undo_6 : decode cL_undo 6 = .ok (.i2l, 1) := by decide +kernel
theorem dL_undo_7 : decode cL_undo 7 = .ok (.lastore, 1) := by decide +kernel
theorem dL_undo_8 : decode cL_undo 8 = .ok (.goto 6, 3) := by decide +kernel
theorem dL_undo_11 : decode cL_undo 11 = .ok (.astore_n 2, 1) := by decide +kernel
theorem dL_undo_12 : decode cL_undo 12 = .ok (.iconst 1, 1) := by decide +kernel
theorem dL_undo_13 : decode cL_undo 13 = .ok (.ireturn, 1) := by decide +kernel
theorem dL_undo_14 : decode cL_undo 14 = .ok (.iconst 0, 1) := by decide +kernel
theorem dL_undo_15 : decode cL_undo 15 = .ok (.ireturn, 1) := by decide +kernel
abbrev cL_restoreSnapshot : ByteArray := method_47_code
def yL_restoreSnapshot : MethodName := ⟨RL, "restoreSnapshot", "(LBookmarkManager;[J)I"⟩
theorem dL_restoreSnapshot_0 : decode cL_restoreSnapshot 0 = .ok (.aload_n 1, 1) := by decide +kernel
theorem dL_restoreSnapshot_1 : decode cL_restoreSnapshot 1 = .ok (.iconst 0, 1) := by decide +kernel
theorem dL_restoreSnapshot_2 : decode cL_restoreSnapshot 2 = .ok (.aload_n 0, 1) := by decide +kernel
theorem dL_restoreSnapshot_3 : decode cL_restoreSnapshot 3 = .ok (.invokevirtual 162, 3) := by decide +kernel
theorem dL_restoreSnapshot_6 : decode cL_restoreSnapshot 6 = .ok (.i2l, 1) := by decide +kernel
theorem dL_restoreSnapshot_7 : decode cL_restoreSnapshot 7 = .ok (.lastore, 1) := by decide +kernel
theorem dL_restoreSnapshot_8 : decode cL_restoreSnapshot 8 = .ok (.goto 6, 3) := by decide +kernel
theorem dL_restoreSnapshot_11 : decode cL_restoreSnapshot 11 = .ok (.astore_n 2, 1) := by decide +kernel
theorem dL_restoreSnapshot_12 : decode cL_restoreSnapshot 12 = .ok (.iconst 1, 1) := by decide +kernel
theorem dL_restoreSnapshot_13 : decode cL_restoreSnapshot 13 = .ok (.ireturn, 1) := by decide +kernel
theorem dL_restoreSnapshot_14 : decode cL_restoreSnapshot 14 = .ok (.iconst 0, 1) := by decide +kernel
theorem dL_restoreSnapshot_15 : decode cL_restoreSnapshot 15 = .ok (.ireturn, 1) := by decide +kernel
theorem q55 : Cond.initialized RL ∈ wU := mU 55 (by decide +kernel) (by decide +kernel)
theorem q800 : Cond.classLink RL 13 "java/lang/IndexOutOfBoundsException" ∈ wU := mU 800 (by decide +kernel) (by decide +kernel)
theorem q803 : Cond.classLink RL 15 "java/lang/IllegalArgumentException" ∈ wU := mU 803 (by decide +kernel) (by decide +kernel)
theorem q804 : Cond.classLink RL 17 "java/lang/UnsupportedOperationException" ∈ wU := mU 804 (by decide +kernel) (by decide +kernel)
theorem q1045 : Cond.classLink RL 48 "java/util/NoSuchElementException" ∈ wU := mU 1045 (by decide +kernel) (by decide +kernel)
theorem q1357 : Cond.classLink RL 142 "java/lang/IllegalStateException" ∈ wU := mU 1357 (by decide +kernel) (by decide +kernel)
theorem q1295 : Cond.classLink RL 125 "java/lang/ArithmeticException" ∈ wU := mU 1295 (by decide +kernel) (by decide +kernel)
theorem cs_IOOBE : Cond.castable "java/lang/IndexOutOfBoundsException" "java/lang/IndexOutOfBoundsException" ∈ nwW := mNW 819 (by decide +kernel) (by decide +kernel)
theorem cs_IAE : Cond.castable "java/lang/IllegalArgumentException" "java/lang/IllegalArgumentException" ∈ nwW := mNW 606 (by decide +kernel) (by decide +kernel)
theorem cs_UOE : Cond.castable "java/lang/UnsupportedOperationException" "java/lang/UnsupportedOperationException" ∈ nwW := mNW 900 (by decide +kernel) (by decide +kernel)
theorem cs_NSE : Cond.castable "java/util/NoSuchElementException" "java/util/NoSuchElementException" ∈ nwW := mNW 1052 (by decide +kernel) (by decide +kernel)
theorem cs_ISE : Cond.castable "java/lang/IllegalStateException" "java/lang/IllegalStateException" ∈ nwW := mNW 1365 (by decide +kernel) (by decide +kernel)
theorem cs_ARE : Cond.castable "java/lang/ArithmeticException" "java/lang/ArithmeticException" ∈ nwW := mNW 1307 (by decide +kernel) (by decide +kernel)
theorem q797 : Cond.methodLink RL 169 yL_addRibbon ∈ wU := mU 797 (by decide +kernel) (by decide +kernel)
theorem q798 : Cond.static yL_addRibbon ∈ wU := mU 798 (by decide +kernel) (by decide +kernel)
theorem q799 : Cond.codeWith yL_addRibbon cL_addRibbon 5 (some .int) [(0, 10, 13, 13), (0, 10, 17, 15), (0, 10, 21, 17)] ∈ wU := mU 799 (by decide +kernel) (by decide +kernel)
theorem lh_addRibbon : CLh RL 169 yL_addRibbon cL_addRibbon 5 (some .int) [(0, 10, 13, 13), (0, 10, 17, 15), (0, 10, 21, 17)] 4 := ⟨⟨by decide, by decide, by decide +kernel⟩, q797, q798, q55, q799⟩
theorem q979 : Cond.methodLink RL 178 yL_addDogEar ∈ wU := mU 979 (by decide +kernel) (by decide +kernel)
theorem q980 : Cond.static yL_addDogEar ∈ wU := mU 980 (by decide +kernel) (by decide +kernel)
theorem q981 : Cond.codeWith yL_addDogEar cL_addDogEar 5 (some .int) [(0, 10, 13, 13), (0, 10, 17, 15), (0, 10, 21, 17)] ∈ wU := mU 981 (by decide +kernel) (by decide +kernel)
theorem lh_addDogEar : CLh RL 178 yL_addDogEar cL_addDogEar 5 (some .int) [(0, 10, 13, 13), (0, 10, 17, 15), (0, 10, 21, 17)] 4 := ⟨⟨by decide, by decide, by decide +kernel⟩, q979, q980, q55, q981⟩
theorem q986 : Cond.methodLink RL 181 yL_removeMark ∈ wU := mU 986 (by decide +kernel) (by decide +kernel)
theorem q987 : Cond.static yL_removeMark ∈ wU := mU 987 (by decide +kernel) (by decide +kernel)
theorem q988 : Cond.codeWith yL_removeMark cL_removeMark 4 (some .int) [(0, 9, 12, 13)] ∈ wU := mU 988 (by decide +kernel) (by decide +kernel)
theorem lh_removeMark : CLh RL 181 yL_removeMark cL_removeMark 4 (some .int) [(0, 9, 12, 13)] 3 := ⟨⟨by decide, by decide, by decide +kernel⟩, q986, q987, q55, q988⟩
theorem q999 : Cond.methodLink RL 185 yL_moveRibbon ∈ wU := mU 999 (by decide +kernel) (by decide +kernel)
theorem q1000 : Cond.static yL_moveRibbon ∈ wU := mU 1000 (by decide +kernel) (by decide +kernel)
theorem q1001 : Cond.codeWith yL_moveRibbon cL_moveRibbon 5 (some .int) [(0, 10, 13, 13), (0, 10, 17, 17)] ∈ wU := mU 1001 (by decide +kernel) (by decide +kernel)
theorem lh_moveRibbon : CLh RL 185 yL_moveRibbon cL_moveRibbon 5 (some .int) [(0, 10, 13, 13), (0, 10, 17, 17)] 4 := ⟨⟨by decide, by decide, by decide +kernel⟩, q999, q1000, q55, q1001⟩
theorem q1006 : Cond.methodLink RL 188 yL_swapSeats ∈ wU := mU 1006 (by decide +kernel) (by decide +kernel)
theorem q1007 : Cond.static yL_swapSeats ∈ wU := mU 1007 (by decide +kernel) (by decide +kernel)
theorem q1008 : Cond.codeWith yL_swapSeats cL_swapSeats 5 (some .int) [(0, 10, 13, 13), (0, 10, 17, 17)] ∈ wU := mU 1008 (by decide +kernel) (by decide +kernel)
theorem lh_swapSeats : CLh RL 188 yL_swapSeats cL_swapSeats 5 (some .int) [(0, 10, 13, 13), (0, 10, 17, 17)] 4 := ⟨⟨by decide, by decide, by decide +kernel⟩, q1006, q1007, q55, q1008⟩
theorem q1013 : Cond.methodLink RL 191 yL_isRibbon ∈ wU := mU 1013 (by decide +kernel) (by decide +kernel)
theorem q1014 : Cond.static yL_isRibbon ∈ wU := mU 1014 (by decide +kernel) (by decide +kernel)
theorem q1015 : Cond.codeWith yL_isRibbon cL_isRibbon 4 (some .int) [(0, 16, 19, 13)] ∈ wU := mU 1015 (by decide +kernel) (by decide +kernel)
theorem lh_isRibbon : CLh RL 191 yL_isRibbon cL_isRibbon 4 (some .int) [(0, 16, 19, 13)] 3 := ⟨⟨by decide, by decide, by decide +kernel⟩, q1013, q1014, q55, q1015⟩
theorem q1021 : Cond.methodLink RL 194 yL_pageOf ∈ wU := mU 1021 (by decide +kernel) (by decide +kernel)
theorem q1022 : Cond.static yL_pageOf ∈ wU := mU 1022 (by decide +kernel) (by decide +kernel)
theorem q1023 : Cond.codeWith yL_pageOf cL_pageOf 4 (some .int) [(0, 9, 12, 13)] ∈ wU := mU 1023 (by decide +kernel) (by decide +kernel)
theorem lh_pageOf : CLh RL 194 yL_pageOf cL_pageOf 4 (some .int) [(0, 9, 12, 13)] 3 := ⟨⟨by decide, by decide, by decide +kernel⟩, q1021, q1022, q55, q1023⟩
theorem q1028 : Cond.methodLink RL 197 yL_weightOf ∈ wU := mU 1028 (by decide +kernel) (by decide +kernel)
theorem q1029 : Cond.static yL_weightOf ∈ wU := mU 1029 (by decide +kernel) (by decide +kernel)
theorem q1030 : Cond.codeWith yL_weightOf cL_weightOf 4 (some .int) [(0, 9, 12, 13)] ∈ wU := mU 1030 (by decide +kernel) (by decide +kernel)
theorem lh_weightOf : CLh RL 197 yL_weightOf cL_weightOf 4 (some .int) [(0, 9, 12, 13)] 3 := ⟨⟨by decide, by decide, by decide +kernel⟩, q1028, q1029, q55, q1030⟩
theorem q1035 : Cond.methodLink RL 200 yL_wearOf ∈ wU := mU 1035 (by decide +kernel) (by decide +kernel)
theorem q1036 : Cond.static yL_wearOf ∈ wU := mU 1036 (by decide +kernel) (by decide +kernel)
theorem q1037 : Cond.codeWith yL_wearOf cL_wearOf 4 (some .int) [(0, 9, 12, 13)] ∈ wU := mU 1037 (by decide +kernel) (by decide +kernel)
theorem lh_wearOf : CLh RL 200 yL_wearOf cL_wearOf 4 (some .int) [(0, 9, 12, 13)] 3 := ⟨⟨by decide, by decide, by decide +kernel⟩, q1035, q1036, q55, q1037⟩
theorem q1042 : Cond.methodLink RL 203 yL_seatOf ∈ wU := mU 1042 (by decide +kernel) (by decide +kernel)
theorem q1043 : Cond.static yL_seatOf ∈ wU := mU 1043 (by decide +kernel) (by decide +kernel)
theorem q1044 : Cond.codeWith yL_seatOf cL_seatOf 4 (some .int) [(0, 9, 12, 13), (0, 9, 15, 48)] ∈ wU := mU 1044 (by decide +kernel) (by decide +kernel)
theorem lh_seatOf : CLh RL 203 yL_seatOf cL_seatOf 4 (some .int) [(0, 9, 12, 13), (0, 9, 15, 48)] 3 := ⟨⟨by decide, by decide, by decide +kernel⟩, q1042, q1043, q55, q1044⟩
theorem q1066 : Cond.methodLink RL 206 yL_ribbonIn ∈ wU := mU 1066 (by decide +kernel) (by decide +kernel)
theorem q1067 : Cond.static yL_ribbonIn ∈ wU := mU 1067 (by decide +kernel) (by decide +kernel)
theorem q1068 : Cond.codeWith yL_ribbonIn cL_ribbonIn 4 (some .int) [(0, 9, 12, 13), (0, 9, 15, 48)] ∈ wU := mU 1068 (by decide +kernel) (by decide +kernel)
theorem lh_ribbonIn : CLh RL 206 yL_ribbonIn cL_ribbonIn 4 (some .int) [(0, 9, 12, 13), (0, 9, 15, 48)] 3 := ⟨⟨by decide, by decide, by decide +kernel⟩, q1066, q1067, q55, q1068⟩
theorem q1079 : Cond.methodLink RL 209 yL_isHeld ∈ wU := mU 1079 (by decide +kernel) (by decide +kernel)
theorem q1080 : Cond.static yL_isHeld ∈ wU := mU 1080 (by decide +kernel) (by decide +kernel)
theorem q1081 : Cond.codeWith yL_isHeld cL_isHeld 4 (some .int) [(0, 16, 19, 13)] ∈ wU := mU 1081 (by decide +kernel) (by decide +kernel)
theorem lh_isHeld : CLh RL 209 yL_isHeld cL_isHeld 4 (some .int) [(0, 16, 19, 13)] 3 := ⟨⟨by decide, by decide, by decide +kernel⟩, q1079, q1080, q55, q1081⟩
theorem q1087 : Cond.methodLink RL 212 yL_markOn ∈ wU := mU 1087 (by decide +kernel) (by decide +kernel)
theorem q1088 : Cond.static yL_markOn ∈ wU := mU 1088 (by decide +kernel) (by decide +kernel)
theorem q1089 : Cond.codeWith yL_markOn cL_markOn 4 (some .int) [(0, 9, 12, 13), (0, 9, 15, 48)] ∈ wU := mU 1089 (by decide +kernel) (by decide +kernel)
theorem lh_markOn : CLh RL 212 yL_markOn cL_markOn 4 (some .int) [(0, 9, 12, 13), (0, 9, 15, 48)] 3 := ⟨⟨by decide, by decide, by decide +kernel⟩, q1087, q1088, q55, q1089⟩
theorem q1094 : Cond.methodLink RL 215 yL_nextMark ∈ wU := mU 1094 (by decide +kernel) (by decide +kernel)
theorem q1095 : Cond.static yL_nextMark ∈ wU := mU 1095 (by decide +kernel) (by decide +kernel)
theorem q1096 : Cond.codeWith yL_nextMark cL_nextMark 4 (some .int) [(0, 9, 12, 13), (0, 9, 15, 48)] ∈ wU := mU 1096 (by decide +kernel) (by decide +kernel)
theorem lh_nextMark : CLh RL 215 yL_nextMark cL_nextMark 4 (some .int) [(0, 9, 12, 13), (0, 9, 15, 48)] 3 := ⟨⟨by decide, by decide, by decide +kernel⟩, q1094, q1095, q55, q1096⟩
theorem q1105 : Cond.methodLink RL 218 yL_previousMark ∈ wU := mU 1105 (by decide +kernel) (by decide +kernel)
theorem q1106 : Cond.static yL_previousMark ∈ wU := mU 1106 (by decide +kernel) (by decide +kernel)
theorem q1107 : Cond.codeWith yL_previousMark cL_previousMark 4 (some .int) [(0, 9, 12, 13), (0, 9, 15, 48)] ∈ wU := mU 1107 (by decide +kernel) (by decide +kernel)
theorem lh_previousMark : CLh RL 218 yL_previousMark cL_previousMark 4 (some .int) [(0, 9, 12, 13), (0, 9, 15, 48)] 3 := ⟨⟨by decide, by decide, by decide +kernel⟩, q1105, q1106, q55, q1107⟩
theorem q1116 : Cond.methodLink RL 221 yL_nearestMark ∈ wU := mU 1116 (by decide +kernel) (by decide +kernel)
theorem q1117 : Cond.static yL_nearestMark ∈ wU := mU 1117 (by decide +kernel) (by decide +kernel)
theorem q1118 : Cond.codeWith yL_nearestMark cL_nearestMark 4 (some .int) [(0, 9, 12, 13), (0, 9, 15, 48)] ∈ wU := mU 1118 (by decide +kernel) (by decide +kernel)
theorem lh_nearestMark : CLh RL 221 yL_nearestMark cL_nearestMark 4 (some .int) [(0, 9, 12, 13), (0, 9, 15, 48)] 3 := ⟨⟨by decide, by decide, by decide +kernel⟩, q1116, q1117, q55, q1118⟩
theorem q1129 : Cond.methodLink RL 224 yL_chapterOf ∈ wU := mU 1129 (by decide +kernel) (by decide +kernel)
theorem q1130 : Cond.static yL_chapterOf ∈ wU := mU 1130 (by decide +kernel) (by decide +kernel)
theorem q1131 : Cond.codeWith yL_chapterOf cL_chapterOf 4 (some .int) [(0, 9, 12, 13)] ∈ wU := mU 1131 (by decide +kernel) (by decide +kernel)
theorem lh_chapterOf : CLh RL 224 yL_chapterOf cL_chapterOf 4 (some .int) [(0, 9, 12, 13)] 3 := ⟨⟨by decide, by decide, by decide +kernel⟩, q1129, q1130, q55, q1131⟩
theorem q1137 : Cond.methodLink RL 227 yL_startChapter ∈ wU := mU 1137 (by decide +kernel) (by decide +kernel)
theorem q1138 : Cond.static yL_startChapter ∈ wU := mU 1138 (by decide +kernel) (by decide +kernel)
theorem q1139 : Cond.codeWith yL_startChapter cL_startChapter 4 (some .int) [(0, 9, 12, 13), (0, 9, 15, 17)] ∈ wU := mU 1139 (by decide +kernel) (by decide +kernel)
theorem lh_startChapter : CLh RL 227 yL_startChapter cL_startChapter 4 (some .int) [(0, 9, 12, 13), (0, 9, 15, 17)] 3 := ⟨⟨by decide, by decide, by decide +kernel⟩, q1137, q1138, q55, q1139⟩
theorem q1144 : Cond.methodLink RL 230 yL_voteToDissolve ∈ wU := mU 1144 (by decide +kernel) (by decide +kernel)
theorem q1145 : Cond.static yL_voteToDissolve ∈ wU := mU 1145 (by decide +kernel) (by decide +kernel)
theorem q1146 : Cond.codeWith yL_voteToDissolve cL_voteToDissolve 4 (some .int) [(0, 16, 19, 13), (0, 16, 22, 17)] ∈ wU := mU 1146 (by decide +kernel) (by decide +kernel)
theorem lh_voteToDissolve : CLh RL 230 yL_voteToDissolve cL_voteToDissolve 4 (some .int) [(0, 16, 19, 13), (0, 16, 22, 17)] 3 := ⟨⟨by decide, by decide, by decide +kernel⟩, q1144, q1145, q55, q1146⟩
theorem q1160 : Cond.methodLink RL 233 yL_firstPage ∈ wU := mU 1160 (by decide +kernel) (by decide +kernel)
theorem q1161 : Cond.static yL_firstPage ∈ wU := mU 1161 (by decide +kernel) (by decide +kernel)
theorem q1162 : Cond.codeWith yL_firstPage cL_firstPage 4 (some .int) [(0, 9, 12, 13)] ∈ wU := mU 1162 (by decide +kernel) (by decide +kernel)
theorem lh_firstPage : CLh RL 233 yL_firstPage cL_firstPage 4 (some .int) [(0, 9, 12, 13)] 3 := ⟨⟨by decide, by decide, by decide +kernel⟩, q1160, q1161, q55, q1162⟩
theorem q1167 : Cond.methodLink RL 236 yL_lastPage ∈ wU := mU 1167 (by decide +kernel) (by decide +kernel)
theorem q1168 : Cond.static yL_lastPage ∈ wU := mU 1168 (by decide +kernel) (by decide +kernel)
theorem q1169 : Cond.codeWith yL_lastPage cL_lastPage 4 (some .int) [(0, 9, 12, 13)] ∈ wU := mU 1169 (by decide +kernel) (by decide +kernel)
theorem lh_lastPage : CLh RL 236 yL_lastPage cL_lastPage 4 (some .int) [(0, 9, 12, 13)] 3 := ⟨⟨by decide, by decide, by decide +kernel⟩, q1167, q1168, q55, q1169⟩
theorem q1175 : Cond.methodLink RL 239 yL_heldPages ∈ wU := mU 1175 (by decide +kernel) (by decide +kernel)
theorem q1176 : Cond.static yL_heldPages ∈ wU := mU 1176 (by decide +kernel) (by decide +kernel)
theorem q1177 : Cond.codeWith yL_heldPages cL_heldPages 4 (some .int) [(0, 9, 12, 13)] ∈ wU := mU 1177 (by decide +kernel) (by decide +kernel)
theorem lh_heldPages : CLh RL 239 yL_heldPages cL_heldPages 4 (some .int) [(0, 9, 12, 13)] 3 := ⟨⟨by decide, by decide, by decide +kernel⟩, q1175, q1176, q55, q1177⟩
theorem q1183 : Cond.methodLink RL 242 yL_heldPagesByMarks ∈ wU := mU 1183 (by decide +kernel) (by decide +kernel)
theorem q1184 : Cond.static yL_heldPagesByMarks ∈ wU := mU 1184 (by decide +kernel) (by decide +kernel)
theorem q1185 : Cond.codeWith yL_heldPagesByMarks cL_heldPagesByMarks 4 (some .int) [(0, 9, 12, 13)] ∈ wU := mU 1185 (by decide +kernel) (by decide +kernel)
theorem lh_heldPagesByMarks : CLh RL 242 yL_heldPagesByMarks cL_heldPagesByMarks 4 (some .int) [(0, 9, 12, 13)] 3 := ⟨⟨by decide, by decide, by decide +kernel⟩, q1183, q1184, q55, q1185⟩
theorem q1191 : Cond.methodLink RL 245 yL_chapterWeight ∈ wU := mU 1191 (by decide +kernel) (by decide +kernel)
theorem q1192 : Cond.static yL_chapterWeight ∈ wU := mU 1192 (by decide +kernel) (by decide +kernel)
theorem q1193 : Cond.codeWith yL_chapterWeight cL_chapterWeight 4 (some .int) [(0, 9, 12, 13)] ∈ wU := mU 1193 (by decide +kernel) (by decide +kernel)
theorem lh_chapterWeight : CLh RL 245 yL_chapterWeight cL_chapterWeight 4 (some .int) [(0, 9, 12, 13)] 3 := ⟨⟨by decide, by decide, by decide +kernel⟩, q1191, q1192, q55, q1193⟩
theorem q1199 : Cond.methodLink RL 248 yL_weightInFavour ∈ wU := mU 1199 (by decide +kernel) (by decide +kernel)
theorem q1200 : Cond.static yL_weightInFavour ∈ wU := mU 1200 (by decide +kernel) (by decide +kernel)
theorem q1201 : Cond.codeWith yL_weightInFavour cL_weightInFavour 4 (some .int) [(0, 9, 12, 13)] ∈ wU := mU 1201 (by decide +kernel) (by decide +kernel)
theorem lh_weightInFavour : CLh RL 248 yL_weightInFavour cL_weightInFavour 4 (some .int) [(0, 9, 12, 13)] 3 := ⟨⟨by decide, by decide, by decide +kernel⟩, q1199, q1200, q55, q1201⟩
theorem q1207 : Cond.methodLink RL 251 yL_weightAgainst ∈ wU := mU 1207 (by decide +kernel) (by decide +kernel)
theorem q1208 : Cond.static yL_weightAgainst ∈ wU := mU 1208 (by decide +kernel) (by decide +kernel)
theorem q1209 : Cond.codeWith yL_weightAgainst cL_weightAgainst 4 (some .int) [(0, 9, 12, 13)] ∈ wU := mU 1209 (by decide +kernel) (by decide +kernel)
theorem lh_weightAgainst : CLh RL 251 yL_weightAgainst cL_weightAgainst 4 (some .int) [(0, 9, 12, 13)] 3 := ⟨⟨by decide, by decide, by decide +kernel⟩, q1207, q1208, q55, q1209⟩
theorem q1215 : Cond.methodLink RL 254 yL_weightAgainstByTotal ∈ wU := mU 1215 (by decide +kernel) (by decide +kernel)
theorem q1216 : Cond.static yL_weightAgainstByTotal ∈ wU := mU 1216 (by decide +kernel) (by decide +kernel)
theorem q1217 : Cond.codeWith yL_weightAgainstByTotal cL_weightAgainstByTotal 4 (some .int) [(0, 9, 12, 13)] ∈ wU := mU 1217 (by decide +kernel) (by decide +kernel)
theorem lh_weightAgainstByTotal : CLh RL 254 yL_weightAgainstByTotal cL_weightAgainstByTotal 4 (some .int) [(0, 9, 12, 13)] 3 := ⟨⟨by decide, by decide, by decide +kernel⟩, q1215, q1216, q55, q1217⟩
theorem q1223 : Cond.methodLink RL 257 yL_wouldDissolve ∈ wU := mU 1223 (by decide +kernel) (by decide +kernel)
theorem q1224 : Cond.static yL_wouldDissolve ∈ wU := mU 1224 (by decide +kernel) (by decide +kernel)
theorem q1225 : Cond.codeWith yL_wouldDissolve cL_wouldDissolve 4 (some .int) [(0, 16, 19, 13)] ∈ wU := mU 1225 (by decide +kernel) (by decide +kernel)
theorem lh_wouldDissolve : CLh RL 257 yL_wouldDissolve cL_wouldDissolve 4 (some .int) [(0, 16, 19, 13)] 3 := ⟨⟨by decide, by decide, by decide +kernel⟩, q1223, q1224, q55, q1225⟩
theorem q1231 : Cond.methodLink RL 264 yL_turnPages ∈ wU := mU 1231 (by decide +kernel) (by decide +kernel)
theorem q1232 : Cond.static yL_turnPages ∈ wU := mU 1232 (by decide +kernel) (by decide +kernel)
theorem q1233 : Cond.codeWith yL_turnPages cL_turnPages 5 (some .int) [(0, 10, 13, 15), (0, 10, 17, 17)] ∈ wU := mU 1233 (by decide +kernel) (by decide +kernel)
theorem lh_turnPages : CLh RL 264 yL_turnPages cL_turnPages 5 (some .int) [(0, 10, 13, 15), (0, 10, 17, 17)] 4 := ⟨⟨by decide, by decide, by decide +kernel⟩, q1231, q1232, q55, q1233⟩
theorem q1247 : Cond.methodLink RL 272 yL_pagesToNextMark ∈ wU := mU 1247 (by decide +kernel) (by decide +kernel)
theorem q1248 : Cond.static yL_pagesToNextMark ∈ wU := mU 1248 (by decide +kernel) (by decide +kernel)
theorem q1249 : Cond.codeWith yL_pagesToNextMark cL_pagesToNextMark 3 (some .int) [(0, 8, 11, 48)] ∈ wU := mU 1249 (by decide +kernel) (by decide +kernel)
theorem lh_pagesToNextMark : CLh RL 272 yL_pagesToNextMark cL_pagesToNextMark 3 (some .int) [(0, 8, 11, 48)] 2 := ⟨⟨by decide, by decide, by decide +kernel⟩, q1247, q1248, q55, q1249⟩
theorem q1255 : Cond.methodLink RL 276 yL_earsAtRisk ∈ wU := mU 1255 (by decide +kernel) (by decide +kernel)
theorem q1256 : Cond.static yL_earsAtRisk ∈ wU := mU 1256 (by decide +kernel) (by decide +kernel)
theorem q1257 : Cond.codeWith yL_earsAtRisk cL_earsAtRisk 5 (some .int) [(0, 10, 13, 15)] ∈ wU := mU 1257 (by decide +kernel) (by decide +kernel)
theorem lh_earsAtRisk : CLh RL 276 yL_earsAtRisk cL_earsAtRisk 5 (some .int) [(0, 10, 13, 15)] 4 := ⟨⟨by decide, by decide, by decide +kernel⟩, q1255, q1256, q55, q1257⟩
theorem q1266 : Cond.methodLink RL 279 yL_markByPage ∈ wU := mU 1266 (by decide +kernel) (by decide +kernel)
theorem q1267 : Cond.static yL_markByPage ∈ wU := mU 1267 (by decide +kernel) (by decide +kernel)
theorem q1268 : Cond.codeWith yL_markByPage cL_markByPage 4 (some .int) [(0, 9, 12, 48)] ∈ wU := mU 1268 (by decide +kernel) (by decide +kernel)
theorem lh_markByPage : CLh RL 279 yL_markByPage cL_markByPage 4 (some .int) [(0, 9, 12, 48)] 3 := ⟨⟨by decide, by decide, by decide +kernel⟩, q1266, q1267, q55, q1268⟩
theorem q1273 : Cond.methodLink RL 282 yL_markByWeight ∈ wU := mU 1273 (by decide +kernel) (by decide +kernel)
theorem q1274 : Cond.static yL_markByWeight ∈ wU := mU 1274 (by decide +kernel) (by decide +kernel)
theorem q1275 : Cond.codeWith yL_markByWeight cL_markByWeight 4 (some .int) [(0, 9, 12, 48)] ∈ wU := mU 1275 (by decide +kernel) (by decide +kernel)
theorem lh_markByWeight : CLh RL 282 yL_markByWeight cL_markByWeight 4 (some .int) [(0, 9, 12, 48)] 3 := ⟨⟨by decide, by decide, by decide +kernel⟩, q1273, q1274, q55, q1275⟩
theorem q1292 : Cond.methodLink RL 325 yL_meanWeight ∈ wU := mU 1292 (by decide +kernel) (by decide +kernel)
theorem q1293 : Cond.static yL_meanWeight ∈ wU := mU 1293 (by decide +kernel) (by decide +kernel)
theorem q1294 : Cond.codeWith yL_meanWeight cL_meanWeight 3 (some .int) [(0, 7, 10, 125)] ∈ wU := mU 1294 (by decide +kernel) (by decide +kernel)
theorem lh_meanWeight : CLh RL 325 yL_meanWeight cL_meanWeight 3 (some .int) [(0, 7, 10, 125)] 2 := ⟨⟨by decide, by decide, by decide +kernel⟩, q1292, q1293, q55, q1294⟩
theorem q1317 : Cond.methodLink RL 329 yL_heldShare ∈ wU := mU 1317 (by decide +kernel) (by decide +kernel)
theorem q1318 : Cond.static yL_heldShare ∈ wU := mU 1318 (by decide +kernel) (by decide +kernel)
theorem q1319 : Cond.codeWith yL_heldShare cL_heldShare 4 (some .int) [(0, 9, 12, 13)] ∈ wU := mU 1319 (by decide +kernel) (by decide +kernel)
theorem lh_heldShare : CLh RL 329 yL_heldShare cL_heldShare 4 (some .int) [(0, 9, 12, 13)] 3 := ⟨⟨by decide, by decide, by decide +kernel⟩, q1317, q1318, q55, q1319⟩
theorem q1324 : Cond.methodLink RL 338 yL_writeChapter ∈ wU := mU 1324 (by decide +kernel) (by decide +kernel)
theorem q1325 : Cond.static yL_writeChapter ∈ wU := mU 1325 (by decide +kernel) (by decide +kernel)
theorem q1326 : Cond.codeWith yL_writeChapter cL_writeChapter 4 (some .int) [(0, 9, 12, 13)] ∈ wU := mU 1326 (by decide +kernel) (by decide +kernel)
theorem lh_writeChapter : CLh RL 338 yL_writeChapter cL_writeChapter 4 (some .int) [(0, 9, 12, 13)] 3 := ⟨⟨by decide, by decide, by decide +kernel⟩, q1324, q1325, q55, q1326⟩
theorem q1336 : Cond.methodLink RL 345 yL_outputAt ∈ wU := mU 1336 (by decide +kernel) (by decide +kernel)
theorem q1337 : Cond.static yL_outputAt ∈ wU := mU 1337 (by decide +kernel) (by decide +kernel)
theorem q1338 : Cond.codeWith yL_outputAt cL_outputAt 4 (some .int) [(0, 9, 12, 13)] ∈ wU := mU 1338 (by decide +kernel) (by decide +kernel)
theorem lh_outputAt : CLh RL 345 yL_outputAt cL_outputAt 4 (some .int) [(0, 9, 12, 13)] 3 := ⟨⟨by decide, by decide, by decide +kernel⟩, q1336, q1337, q55, q1338⟩
theorem q1354 : Cond.methodLink RL 348 yL_appendInput ∈ wU := mU 1354 (by decide +kernel) (by decide +kernel)
theorem q1355 : Cond.static yL_appendInput ∈ wU := mU 1355 (by decide +kernel) (by decide +kernel)
theorem q1356 : Cond.codeWith yL_appendInput cL_appendInput 4 (some .int) [(0, 9, 12, 15), (0, 9, 15, 142)] ∈ wU := mU 1356 (by decide +kernel) (by decide +kernel)
theorem lh_appendInput : CLh RL 348 yL_appendInput cL_appendInput 4 (some .int) [(0, 9, 12, 15), (0, 9, 15, 142)] 3 := ⟨⟨by decide, by decide, by decide +kernel⟩, q1354, q1355, q55, q1356⟩
theorem q1383 : Cond.methodLink RL 352 yL_execute ∈ wU := mU 1383 (by decide +kernel) (by decide +kernel)
theorem q1384 : Cond.static yL_execute ∈ wU := mU 1384 (by decide +kernel) (by decide +kernel)
theorem q1385 : Cond.codeWith yL_execute cL_execute 3 (some .int) [(0, 8, 11, 15), (0, 8, 14, 142), (0, 8, 17, 17)] ∈ wU := mU 1385 (by decide +kernel) (by decide +kernel)
theorem lh_execute : CLh RL 352 yL_execute cL_execute 3 (some .int) [(0, 8, 11, 15), (0, 8, 14, 142), (0, 8, 17, 17)] 2 := ⟨⟨by decide, by decide, by decide +kernel⟩, q1383, q1384, q55, q1385⟩
theorem q1436 : Cond.methodLink RL 355 yL_syntaxErrorOffset ∈ wU := mU 1436 (by decide +kernel) (by decide +kernel)
theorem q1437 : Cond.static yL_syntaxErrorOffset ∈ wU := mU 1437 (by decide +kernel) (by decide +kernel)
theorem q1438 : Cond.codeWith yL_syntaxErrorOffset cL_syntaxErrorOffset 3 (some .int) [(0, 8, 11, 48)] ∈ wU := mU 1438 (by decide +kernel) (by decide +kernel)
theorem lh_syntaxErrorOffset : CLh RL 355 yL_syntaxErrorOffset cL_syntaxErrorOffset 3 (some .int) [(0, 8, 11, 48)] 2 := ⟨⟨by decide, by decide, by decide +kernel⟩, q1436, q1437, q55, q1438⟩
theorem q1444 : Cond.methodLink RL 358 yL_rejectionReason ∈ wU := mU 1444 (by decide +kernel) (by decide +kernel)
theorem q1445 : Cond.static yL_rejectionReason ∈ wU := mU 1445 (by decide +kernel) (by decide +kernel)
theorem q1446 : Cond.codeWith yL_rejectionReason cL_rejectionReason 3 (some .int) [(0, 8, 11, 48)] ∈ wU := mU 1446 (by decide +kernel) (by decide +kernel)
theorem lh_rejectionReason : CLh RL 358 yL_rejectionReason cL_rejectionReason 3 (some .int) [(0, 8, 11, 48)] 2 := ⟨⟨by decide, by decide, by decide +kernel⟩, q1444, q1445, q55, q1446⟩
theorem q1456 : Cond.methodLink RL 361 yL_rejectionDetail ∈ wU := mU 1456 (by decide +kernel) (by decide +kernel)
theorem q1457 : Cond.static yL_rejectionDetail ∈ wU := mU 1457 (by decide +kernel) (by decide +kernel)
theorem q1458 : Cond.codeWith yL_rejectionDetail cL_rejectionDetail 3 (some .int) [(0, 8, 11, 48)] ∈ wU := mU 1458 (by decide +kernel) (by decide +kernel)
theorem lh_rejectionDetail : CLh RL 361 yL_rejectionDetail cL_rejectionDetail 3 (some .int) [(0, 8, 11, 48)] 2 := ⟨⟨by decide, by decide, by decide +kernel⟩, q1456, q1457, q55, q1458⟩
theorem q1463 : Cond.methodLink RL 364 yL_causeReason ∈ wU := mU 1463 (by decide +kernel) (by decide +kernel)
theorem q1464 : Cond.static yL_causeReason ∈ wU := mU 1464 (by decide +kernel) (by decide +kernel)
theorem q1465 : Cond.codeWith yL_causeReason cL_causeReason 3 (some .int) [(0, 8, 11, 48)] ∈ wU := mU 1465 (by decide +kernel) (by decide +kernel)
theorem lh_causeReason : CLh RL 364 yL_causeReason cL_causeReason 3 (some .int) [(0, 8, 11, 48)] 2 := ⟨⟨by decide, by decide, by decide +kernel⟩, q1463, q1464, q55, q1465⟩
theorem q1471 : Cond.methodLink RL 367 yL_undo ∈ wU := mU 1471 (by decide +kernel) (by decide +kernel)
theorem q1472 : Cond.static yL_undo ∈ wU := mU 1472 (by decide +kernel) (by decide +kernel)
theorem q1473 : Cond.codeWith yL_undo cL_undo 3 (some .int) [(0, 8, 11, 142)] ∈ wU := mU 1473 (by decide +kernel) (by decide +kernel)
theorem lh_undo : CLh RL 367 yL_undo cL_undo 3 (some .int) [(0, 8, 11, 142)] 2 := ⟨⟨by decide, by decide, by decide +kernel⟩, q1471, q1472, q55, q1473⟩
theorem q1483 : Cond.methodLink RL 378 yL_restoreSnapshot ∈ wU := mU 1483 (by decide +kernel) (by decide +kernel)
theorem q1484 : Cond.static yL_restoreSnapshot ∈ wU := mU 1484 (by decide +kernel) (by decide +kernel)
theorem q1485 : Cond.codeWith yL_restoreSnapshot cL_restoreSnapshot 3 (some .int) [(0, 8, 11, 142)] ∈ wU := mU 1485 (by decide +kernel) (by decide +kernel)
theorem lh_restoreSnapshot : CLh RL 378 yL_restoreSnapshot cL_restoreSnapshot 3 (some .int) [(0, 8, 11, 142)] 2 := ⟨⟨by decide, by decide, by decide +kernel⟩, q1483, q1484, q55, q1485⟩
theorem q805 : Cond.methodLink "BookmarkManagerLaw" 7 yX3_addRibbon ∈ wU := mU 805 (by decide +kernel) (by decide +kernel)
theorem q806 : Cond.instanceMethod yX3_addRibbon ∈ wU := mU 806 (by decide +kernel) (by decide +kernel)
theorem q807 : Cond.selects "BookmarkManager" yX3_addRibbon yX3_addRibbon ∈ wU := mU 807 (by decide +kernel) (by decide +kernel)
theorem q808 : Cond.code yX3_addRibbon prog_1_method_2_code 3 (some .int) ∈ wU := mU 808 (by decide +kernel) (by decide +kernel)
theorem q982 : Cond.methodLink "BookmarkManagerLaw" 19 yX3_addDogEar ∈ wU := mU 982 (by decide +kernel) (by decide +kernel)
theorem q983 : Cond.instanceMethod yX3_addDogEar ∈ wU := mU 983 (by decide +kernel) (by decide +kernel)
theorem q984 : Cond.selects "BookmarkManager" yX3_addDogEar yX3_addDogEar ∈ wU := mU 984 (by decide +kernel) (by decide +kernel)
theorem q985 : Cond.code yX3_addDogEar prog_1_method_3_code 3 (some .int) ∈ wU := mU 985 (by decide +kernel) (by decide +kernel)
theorem q989 : Cond.methodLink "BookmarkManagerLaw" 22 yX3_removeMark ∈ wU := mU 989 (by decide +kernel) (by decide +kernel)
theorem q990 : Cond.instanceMethod yX3_removeMark ∈ wU := mU 990 (by decide +kernel) (by decide +kernel)
theorem q991 : Cond.selects "BookmarkManager" yX3_removeMark yX3_removeMark ∈ wU := mU 991 (by decide +kernel) (by decide +kernel)
theorem q992 : Cond.code yX3_removeMark prog_1_method_4_code 2 (some .int) ∈ wU := mU 992 (by decide +kernel) (by decide +kernel)
theorem q1002 : Cond.methodLink "BookmarkManagerLaw" 26 yX3_moveRibbon ∈ wU := mU 1002 (by decide +kernel) (by decide +kernel)
theorem q1003 : Cond.instanceMethod yX3_moveRibbon ∈ wU := mU 1003 (by decide +kernel) (by decide +kernel)
theorem q1004 : Cond.selects "BookmarkManager" yX3_moveRibbon yX3_moveRibbon ∈ wU := mU 1004 (by decide +kernel) (by decide +kernel)
theorem q1005 : Cond.code yX3_moveRibbon prog_1_method_5_code 3 (some .int) ∈ wU := mU 1005 (by decide +kernel) (by decide +kernel)
theorem q1009 : Cond.methodLink "BookmarkManagerLaw" 29 yX3_swapSeats ∈ wU := mU 1009 (by decide +kernel) (by decide +kernel)
theorem q1010 : Cond.instanceMethod yX3_swapSeats ∈ wU := mU 1010 (by decide +kernel) (by decide +kernel)
theorem q1011 : Cond.selects "BookmarkManager" yX3_swapSeats yX3_swapSeats ∈ wU := mU 1011 (by decide +kernel) (by decide +kernel)
theorem q1012 : Cond.code yX3_swapSeats prog_1_method_6_code 3 (some .int) ∈ wU := mU 1012 (by decide +kernel) (by decide +kernel)
theorem q1016 : Cond.methodLink "BookmarkManagerLaw" 32 yX3_isRibbon ∈ wU := mU 1016 (by decide +kernel) (by decide +kernel)
theorem q1017 : Cond.instanceMethod yX3_isRibbon ∈ wU := mU 1017 (by decide +kernel) (by decide +kernel)
theorem q1018 : Cond.selects "BookmarkManager" yX3_isRibbon yX3_isRibbon ∈ wU := mU 1018 (by decide +kernel) (by decide +kernel)
theorem q1019 : Cond.code yX3_isRibbon prog_1_method_7_code 2 (some .boolean) ∈ wU := mU 1019 (by decide +kernel) (by decide +kernel)
theorem q1024 : Cond.methodLink "BookmarkManagerLaw" 36 yX3_pageOf ∈ wU := mU 1024 (by decide +kernel) (by decide +kernel)
theorem q1025 : Cond.instanceMethod yX3_pageOf ∈ wU := mU 1025 (by decide +kernel) (by decide +kernel)
theorem q1026 : Cond.selects "BookmarkManager" yX3_pageOf yX3_pageOf ∈ wU := mU 1026 (by decide +kernel) (by decide +kernel)
theorem q1027 : Cond.code yX3_pageOf prog_1_method_8_code 2 (some .int) ∈ wU := mU 1027 (by decide +kernel) (by decide +kernel)
theorem q1031 : Cond.methodLink "BookmarkManagerLaw" 39 yX3_weightOf ∈ wU := mU 1031 (by decide +kernel) (by decide +kernel)
theorem q1032 : Cond.instanceMethod yX3_weightOf ∈ wU := mU 1032 (by decide +kernel) (by decide +kernel)
theorem q1033 : Cond.selects "BookmarkManager" yX3_weightOf yX3_weightOf ∈ wU := mU 1033 (by decide +kernel) (by decide +kernel)
theorem q1034 : Cond.code yX3_weightOf prog_1_method_9_code 2 (some .int) ∈ wU := mU 1034 (by decide +kernel) (by decide +kernel)
theorem q1038 : Cond.methodLink "BookmarkManagerLaw" 42 yX3_wearOf ∈ wU := mU 1038 (by decide +kernel) (by decide +kernel)
theorem q1039 : Cond.instanceMethod yX3_wearOf ∈ wU := mU 1039 (by decide +kernel) (by decide +kernel)
theorem q1040 : Cond.selects "BookmarkManager" yX3_wearOf yX3_wearOf ∈ wU := mU 1040 (by decide +kernel) (by decide +kernel)
theorem q1041 : Cond.code yX3_wearOf prog_1_method_10_code 2 (some .int) ∈ wU := mU 1041 (by decide +kernel) (by decide +kernel)
theorem q1046 : Cond.methodLink "BookmarkManagerLaw" 45 yX3_seatOf ∈ wU := mU 1046 (by decide +kernel) (by decide +kernel)
theorem q1047 : Cond.instanceMethod yX3_seatOf ∈ wU := mU 1047 (by decide +kernel) (by decide +kernel)
theorem q1048 : Cond.selects "BookmarkManager" yX3_seatOf yX3_seatOf ∈ wU := mU 1048 (by decide +kernel) (by decide +kernel)
theorem q1049 : Cond.code yX3_seatOf prog_1_method_11_code 3 (some .int) ∈ wU := mU 1049 (by decide +kernel) (by decide +kernel)
theorem q1069 : Cond.methodLink "BookmarkManagerLaw" 50 yX3_ribbonIn ∈ wU := mU 1069 (by decide +kernel) (by decide +kernel)
theorem q1070 : Cond.instanceMethod yX3_ribbonIn ∈ wU := mU 1070 (by decide +kernel) (by decide +kernel)
theorem q1071 : Cond.selects "BookmarkManager" yX3_ribbonIn yX3_ribbonIn ∈ wU := mU 1071 (by decide +kernel) (by decide +kernel)
theorem q1072 : Cond.code yX3_ribbonIn prog_1_method_12_code 2 (some .int) ∈ wU := mU 1072 (by decide +kernel) (by decide +kernel)
theorem q1082 : Cond.methodLink "BookmarkManagerLaw" 53 yX3_isHeld ∈ wU := mU 1082 (by decide +kernel) (by decide +kernel)
theorem q1083 : Cond.instanceMethod yX3_isHeld ∈ wU := mU 1083 (by decide +kernel) (by decide +kernel)
theorem q1084 : Cond.selects "BookmarkManager" yX3_isHeld yX3_isHeld ∈ wU := mU 1084 (by decide +kernel) (by decide +kernel)
theorem q1085 : Cond.code yX3_isHeld prog_1_method_13_code 2 (some .boolean) ∈ wU := mU 1085 (by decide +kernel) (by decide +kernel)
theorem q1090 : Cond.methodLink "BookmarkManagerLaw" 56 yX3_markOn ∈ wU := mU 1090 (by decide +kernel) (by decide +kernel)
theorem q1091 : Cond.instanceMethod yX3_markOn ∈ wU := mU 1091 (by decide +kernel) (by decide +kernel)
theorem q1092 : Cond.selects "BookmarkManager" yX3_markOn yX3_markOn ∈ wU := mU 1092 (by decide +kernel) (by decide +kernel)
theorem q1093 : Cond.code yX3_markOn prog_1_method_14_code 2 (some .int) ∈ wU := mU 1093 (by decide +kernel) (by decide +kernel)
theorem q1097 : Cond.methodLink "BookmarkManagerLaw" 59 yX3_nextMark ∈ wU := mU 1097 (by decide +kernel) (by decide +kernel)
theorem q1098 : Cond.instanceMethod yX3_nextMark ∈ wU := mU 1098 (by decide +kernel) (by decide +kernel)
theorem q1099 : Cond.selects "BookmarkManager" yX3_nextMark yX3_nextMark ∈ wU := mU 1099 (by decide +kernel) (by decide +kernel)
theorem q1100 : Cond.code yX3_nextMark prog_1_method_15_code 2 (some .int) ∈ wU := mU 1100 (by decide +kernel) (by decide +kernel)
theorem q1108 : Cond.methodLink "BookmarkManagerLaw" 62 yX3_previousMark ∈ wU := mU 1108 (by decide +kernel) (by decide +kernel)
theorem q1109 : Cond.instanceMethod yX3_previousMark ∈ wU := mU 1109 (by decide +kernel) (by decide +kernel)
theorem q1110 : Cond.selects "BookmarkManager" yX3_previousMark yX3_previousMark ∈ wU := mU 1110 (by decide +kernel) (by decide +kernel)
theorem q1111 : Cond.code yX3_previousMark prog_1_method_16_code 2 (some .int) ∈ wU := mU 1111 (by decide +kernel) (by decide +kernel)
theorem q1119 : Cond.methodLink "BookmarkManagerLaw" 65 yX3_nearestMark ∈ wU := mU 1119 (by decide +kernel) (by decide +kernel)
theorem q1120 : Cond.instanceMethod yX3_nearestMark ∈ wU := mU 1120 (by decide +kernel) (by decide +kernel)
theorem q1121 : Cond.selects "BookmarkManager" yX3_nearestMark yX3_nearestMark ∈ wU := mU 1121 (by decide +kernel) (by decide +kernel)
theorem q1122 : Cond.code yX3_nearestMark prog_1_method_17_code 2 (some .int) ∈ wU := mU 1122 (by decide +kernel) (by decide +kernel)
theorem q1132 : Cond.methodLink "BookmarkManagerLaw" 68 yX3_chapterOf ∈ wU := mU 1132 (by decide +kernel) (by decide +kernel)
theorem q1133 : Cond.instanceMethod yX3_chapterOf ∈ wU := mU 1133 (by decide +kernel) (by decide +kernel)
theorem q1134 : Cond.selects "BookmarkManager" yX3_chapterOf yX3_chapterOf ∈ wU := mU 1134 (by decide +kernel) (by decide +kernel)
theorem q1135 : Cond.code yX3_chapterOf prog_1_method_18_code 2 (some .int) ∈ wU := mU 1135 (by decide +kernel) (by decide +kernel)
theorem q1140 : Cond.methodLink "BookmarkManagerLaw" 71 yX3_startChapter ∈ wU := mU 1140 (by decide +kernel) (by decide +kernel)
theorem q1141 : Cond.instanceMethod yX3_startChapter ∈ wU := mU 1141 (by decide +kernel) (by decide +kernel)
theorem q1142 : Cond.selects "BookmarkManager" yX3_startChapter yX3_startChapter ∈ wU := mU 1142 (by decide +kernel) (by decide +kernel)
theorem q1143 : Cond.code yX3_startChapter prog_1_method_19_code 2 (some .int) ∈ wU := mU 1143 (by decide +kernel) (by decide +kernel)
theorem q1147 : Cond.methodLink "BookmarkManagerLaw" 74 yX3_voteToDissolve ∈ wU := mU 1147 (by decide +kernel) (by decide +kernel)
theorem q1148 : Cond.instanceMethod yX3_voteToDissolve ∈ wU := mU 1148 (by decide +kernel) (by decide +kernel)
theorem q1149 : Cond.selects "BookmarkManager" yX3_voteToDissolve yX3_voteToDissolve ∈ wU := mU 1149 (by decide +kernel) (by decide +kernel)
theorem q1150 : Cond.code yX3_voteToDissolve prog_1_method_20_code 2 (some .boolean) ∈ wU := mU 1150 (by decide +kernel) (by decide +kernel)
theorem q1163 : Cond.methodLink "BookmarkManagerLaw" 77 yX3_firstPage ∈ wU := mU 1163 (by decide +kernel) (by decide +kernel)
theorem q1164 : Cond.instanceMethod yX3_firstPage ∈ wU := mU 1164 (by decide +kernel) (by decide +kernel)
theorem q1165 : Cond.selects "BookmarkManager" yX3_firstPage yX3_firstPage ∈ wU := mU 1165 (by decide +kernel) (by decide +kernel)
theorem q1166 : Cond.code yX3_firstPage prog_1_method_21_code 2 (some .int) ∈ wU := mU 1166 (by decide +kernel) (by decide +kernel)
theorem q1170 : Cond.methodLink "BookmarkManagerLaw" 80 yX3_lastPage ∈ wU := mU 1170 (by decide +kernel) (by decide +kernel)
theorem q1171 : Cond.instanceMethod yX3_lastPage ∈ wU := mU 1171 (by decide +kernel) (by decide +kernel)
theorem q1172 : Cond.selects "BookmarkManager" yX3_lastPage yX3_lastPage ∈ wU := mU 1172 (by decide +kernel) (by decide +kernel)
theorem q1173 : Cond.code yX3_lastPage prog_1_method_22_code 2 (some .int) ∈ wU := mU 1173 (by decide +kernel) (by decide +kernel)
theorem q1178 : Cond.methodLink "BookmarkManagerLaw" 83 yX3_heldPages ∈ wU := mU 1178 (by decide +kernel) (by decide +kernel)
theorem q1179 : Cond.instanceMethod yX3_heldPages ∈ wU := mU 1179 (by decide +kernel) (by decide +kernel)
theorem q1180 : Cond.selects "BookmarkManager" yX3_heldPages yX3_heldPages ∈ wU := mU 1180 (by decide +kernel) (by decide +kernel)
theorem q1181 : Cond.code yX3_heldPages prog_1_method_23_code 2 (some .int) ∈ wU := mU 1181 (by decide +kernel) (by decide +kernel)
theorem q1186 : Cond.methodLink "BookmarkManagerLaw" 86 yX3_heldPagesByMarks ∈ wU := mU 1186 (by decide +kernel) (by decide +kernel)
theorem q1187 : Cond.instanceMethod yX3_heldPagesByMarks ∈ wU := mU 1187 (by decide +kernel) (by decide +kernel)
theorem q1188 : Cond.selects "BookmarkManager" yX3_heldPagesByMarks yX3_heldPagesByMarks ∈ wU := mU 1188 (by decide +kernel) (by decide +kernel)
theorem q1189 : Cond.code yX3_heldPagesByMarks prog_1_method_24_code 2 (some .int) ∈ wU := mU 1189 (by decide +kernel) (by decide +kernel)
theorem q1194 : Cond.methodLink "BookmarkManagerLaw" 89 yX3_chapterWeight ∈ wU := mU 1194 (by decide +kernel) (by decide +kernel)
theorem q1195 : Cond.instanceMethod yX3_chapterWeight ∈ wU := mU 1195 (by decide +kernel) (by decide +kernel)
theorem q1196 : Cond.selects "BookmarkManager" yX3_chapterWeight yX3_chapterWeight ∈ wU := mU 1196 (by decide +kernel) (by decide +kernel)
theorem q1197 : Cond.code yX3_chapterWeight prog_1_method_25_code 2 (some .int) ∈ wU := mU 1197 (by decide +kernel) (by decide +kernel)
theorem q1202 : Cond.methodLink "BookmarkManagerLaw" 92 yX3_weightInFavour ∈ wU := mU 1202 (by decide +kernel) (by decide +kernel)
theorem q1203 : Cond.instanceMethod yX3_weightInFavour ∈ wU := mU 1203 (by decide +kernel) (by decide +kernel)
theorem q1204 : Cond.selects "BookmarkManager" yX3_weightInFavour yX3_weightInFavour ∈ wU := mU 1204 (by decide +kernel) (by decide +kernel)
theorem q1205 : Cond.code yX3_weightInFavour prog_1_method_26_code 2 (some .int) ∈ wU := mU 1205 (by decide +kernel) (by decide +kernel)
theorem q1210 : Cond.methodLink "BookmarkManagerLaw" 95 yX3_weightAgainst ∈ wU := mU 1210 (by decide +kernel) (by decide +kernel)
theorem q1211 : Cond.instanceMethod yX3_weightAgainst ∈ wU := mU 1211 (by decide +kernel) (by decide +kernel)
theorem q1212 : Cond.selects "BookmarkManager" yX3_weightAgainst yX3_weightAgainst ∈ wU := mU 1212 (by decide +kernel) (by decide +kernel)
theorem q1213 : Cond.code yX3_weightAgainst prog_1_method_27_code 2 (some .int) ∈ wU := mU 1213 (by decide +kernel) (by decide +kernel)
theorem q1218 : Cond.methodLink "BookmarkManagerLaw" 98 yX3_weightAgainstByTotal ∈ wU := mU 1218 (by decide +kernel) (by decide +kernel)
theorem q1219 : Cond.instanceMethod yX3_weightAgainstByTotal ∈ wU := mU 1219 (by decide +kernel) (by decide +kernel)
theorem q1220 : Cond.selects "BookmarkManager" yX3_weightAgainstByTotal yX3_weightAgainstByTotal ∈ wU := mU 1220 (by decide +kernel) (by decide +kernel)
theorem q1221 : Cond.code yX3_weightAgainstByTotal prog_1_method_28_code 2 (some .int) ∈ wU := mU 1221 (by decide +kernel) (by decide +kernel)
theorem q1226 : Cond.methodLink "BookmarkManagerLaw" 101 yX3_wouldDissolve ∈ wU := mU 1226 (by decide +kernel) (by decide +kernel)
theorem q1227 : Cond.instanceMethod yX3_wouldDissolve ∈ wU := mU 1227 (by decide +kernel) (by decide +kernel)
theorem q1228 : Cond.selects "BookmarkManager" yX3_wouldDissolve yX3_wouldDissolve ∈ wU := mU 1228 (by decide +kernel) (by decide +kernel)
theorem q1229 : Cond.code yX3_wouldDissolve prog_1_method_29_code 2 (some .boolean) ∈ wU := mU 1229 (by decide +kernel) (by decide +kernel)
theorem q1234 : Cond.methodLink "BookmarkManagerLaw" 104 yX3_turnPages ∈ wU := mU 1234 (by decide +kernel) (by decide +kernel)
theorem q1235 : Cond.instanceMethod yX3_turnPages ∈ wU := mU 1235 (by decide +kernel) (by decide +kernel)
theorem q1236 : Cond.selects "BookmarkManager" yX3_turnPages yX3_turnPages ∈ wU := mU 1236 (by decide +kernel) (by decide +kernel)
theorem q1237 : Cond.code yX3_turnPages prog_1_method_31_code 3 (some .int) ∈ wU := mU 1237 (by decide +kernel) (by decide +kernel)
theorem q1250 : Cond.methodLink "BookmarkManagerLaw" 108 yX3_pagesToNextMark ∈ wU := mU 1250 (by decide +kernel) (by decide +kernel)
theorem q1251 : Cond.instanceMethod yX3_pagesToNextMark ∈ wU := mU 1251 (by decide +kernel) (by decide +kernel)
theorem q1252 : Cond.selects "BookmarkManager" yX3_pagesToNextMark yX3_pagesToNextMark ∈ wU := mU 1252 (by decide +kernel) (by decide +kernel)
theorem q1253 : Cond.code yX3_pagesToNextMark prog_1_method_33_code 2 (some .int) ∈ wU := mU 1253 (by decide +kernel) (by decide +kernel)
theorem q1258 : Cond.methodLink "BookmarkManagerLaw" 112 yX3_earsAtRisk ∈ wU := mU 1258 (by decide +kernel) (by decide +kernel)
theorem q1259 : Cond.instanceMethod yX3_earsAtRisk ∈ wU := mU 1259 (by decide +kernel) (by decide +kernel)
theorem q1260 : Cond.selects "BookmarkManager" yX3_earsAtRisk yX3_earsAtRisk ∈ wU := mU 1260 (by decide +kernel) (by decide +kernel)
theorem q1261 : Cond.code yX3_earsAtRisk prog_1_method_34_code 3 (some .int) ∈ wU := mU 1261 (by decide +kernel) (by decide +kernel)
theorem q1269 : Cond.methodLink "BookmarkManagerLaw" 115 yX3_markByPage ∈ wU := mU 1269 (by decide +kernel) (by decide +kernel)
theorem q1270 : Cond.instanceMethod yX3_markByPage ∈ wU := mU 1270 (by decide +kernel) (by decide +kernel)
theorem q1271 : Cond.selects "BookmarkManager" yX3_markByPage yX3_markByPage ∈ wU := mU 1271 (by decide +kernel) (by decide +kernel)
theorem q1272 : Cond.code yX3_markByPage prog_1_method_35_code 2 (some .int) ∈ wU := mU 1272 (by decide +kernel) (by decide +kernel)
theorem q1276 : Cond.methodLink "BookmarkManagerLaw" 118 yX3_markByWeight ∈ wU := mU 1276 (by decide +kernel) (by decide +kernel)
theorem q1277 : Cond.instanceMethod yX3_markByWeight ∈ wU := mU 1277 (by decide +kernel) (by decide +kernel)
theorem q1278 : Cond.selects "BookmarkManager" yX3_markByWeight yX3_markByWeight ∈ wU := mU 1278 (by decide +kernel) (by decide +kernel)
theorem q1279 : Cond.code yX3_markByWeight prog_1_method_36_code 2 (some .int) ∈ wU := mU 1279 (by decide +kernel) (by decide +kernel)
theorem q1309 : Cond.methodLink "BookmarkManagerLaw" 121 yX3_meanWeight ∈ wU := mU 1309 (by decide +kernel) (by decide +kernel)
theorem q1310 : Cond.instanceMethod yX3_meanWeight ∈ wU := mU 1310 (by decide +kernel) (by decide +kernel)
theorem q1311 : Cond.selects "BookmarkManager" yX3_meanWeight yX3_meanWeight ∈ wU := mU 1311 (by decide +kernel) (by decide +kernel)
theorem q1312 : Cond.code yX3_meanWeight prog_1_method_47_code 1 (some .double) ∈ wU := mU 1312 (by decide +kernel) (by decide +kernel)
theorem q1320 : Cond.methodLink "BookmarkManagerLaw" 127 yX3_heldShare ∈ wU := mU 1320 (by decide +kernel) (by decide +kernel)
theorem q1321 : Cond.instanceMethod yX3_heldShare ∈ wU := mU 1321 (by decide +kernel) (by decide +kernel)
theorem q1322 : Cond.selects "BookmarkManager" yX3_heldShare yX3_heldShare ∈ wU := mU 1322 (by decide +kernel) (by decide +kernel)
theorem q1323 : Cond.code yX3_heldShare prog_1_method_48_code 3 (some .float) ∈ wU := mU 1323 (by decide +kernel) (by decide +kernel)
theorem q1327 : Cond.methodLink "BookmarkManagerLaw" 131 yX3_writeChapter ∈ wU := mU 1327 (by decide +kernel) (by decide +kernel)
theorem q1328 : Cond.instanceMethod yX3_writeChapter ∈ wU := mU 1328 (by decide +kernel) (by decide +kernel)
theorem q1329 : Cond.selects "BookmarkManager" yX3_writeChapter yX3_writeChapter ∈ wU := mU 1329 (by decide +kernel) (by decide +kernel)
theorem q1330 : Cond.code yX3_writeChapter prog_1_method_50_code 3 (some .int) ∈ wU := mU 1330 (by decide +kernel) (by decide +kernel)
theorem q1339 : Cond.methodLink "BookmarkManagerLaw" 134 yX3_outputAt ∈ wU := mU 1339 (by decide +kernel) (by decide +kernel)
theorem q1340 : Cond.instanceMethod yX3_outputAt ∈ wU := mU 1340 (by decide +kernel) (by decide +kernel)
theorem q1341 : Cond.selects "BookmarkManager" yX3_outputAt yX3_outputAt ∈ wU := mU 1341 (by decide +kernel) (by decide +kernel)
theorem q1342 : Cond.code yX3_outputAt prog_1_method_52_code 2 (some .char) ∈ wU := mU 1342 (by decide +kernel) (by decide +kernel)
theorem q1358 : Cond.methodLink "BookmarkManagerLaw" 138 yX3_appendInput ∈ wU := mU 1358 (by decide +kernel) (by decide +kernel)
theorem q1359 : Cond.instanceMethod yX3_appendInput ∈ wU := mU 1359 (by decide +kernel) (by decide +kernel)
theorem q1360 : Cond.selects "BookmarkManager" yX3_appendInput yX3_appendInput ∈ wU := mU 1360 (by decide +kernel) (by decide +kernel)
theorem q1361 : Cond.code yX3_appendInput prog_1_method_53_code 2 (some .int) ∈ wU := mU 1361 (by decide +kernel) (by decide +kernel)
theorem q1386 : Cond.methodLink "BookmarkManagerLaw" 144 yX3_execute ∈ wU := mU 1386 (by decide +kernel) (by decide +kernel)
theorem q1387 : Cond.instanceMethod yX3_execute ∈ wU := mU 1387 (by decide +kernel) (by decide +kernel)
theorem q1388 : Cond.selects "BookmarkManager" yX3_execute yX3_execute ∈ wU := mU 1388 (by decide +kernel) (by decide +kernel)
theorem q1389 : Cond.code yX3_execute prog_1_method_54_code 7 (some .int) ∈ wU := mU 1389 (by decide +kernel) (by decide +kernel)
theorem q1439 : Cond.methodLink "BookmarkManagerLaw" 147 yX3_syntaxErrorOffset ∈ wU := mU 1439 (by decide +kernel) (by decide +kernel)
theorem q1440 : Cond.instanceMethod yX3_syntaxErrorOffset ∈ wU := mU 1440 (by decide +kernel) (by decide +kernel)
theorem q1441 : Cond.selects "BookmarkManager" yX3_syntaxErrorOffset yX3_syntaxErrorOffset ∈ wU := mU 1441 (by decide +kernel) (by decide +kernel)
theorem q1442 : Cond.code yX3_syntaxErrorOffset prog_1_method_55_code 1 (some .int) ∈ wU := mU 1442 (by decide +kernel) (by decide +kernel)
theorem q1447 : Cond.methodLink "BookmarkManagerLaw" 150 yX3_rejectionReason ∈ wU := mU 1447 (by decide +kernel) (by decide +kernel)
theorem q1448 : Cond.instanceMethod yX3_rejectionReason ∈ wU := mU 1448 (by decide +kernel) (by decide +kernel)
theorem q1449 : Cond.selects "BookmarkManager" yX3_rejectionReason yX3_rejectionReason ∈ wU := mU 1449 (by decide +kernel) (by decide +kernel)
theorem q1450 : Cond.code yX3_rejectionReason prog_1_method_56_code 1 (some .int) ∈ wU := mU 1450 (by decide +kernel) (by decide +kernel)
theorem q1459 : Cond.methodLink "BookmarkManagerLaw" 153 yX3_rejectionDetail ∈ wU := mU 1459 (by decide +kernel) (by decide +kernel)
theorem q1460 : Cond.instanceMethod yX3_rejectionDetail ∈ wU := mU 1460 (by decide +kernel) (by decide +kernel)
theorem q1461 : Cond.selects "BookmarkManager" yX3_rejectionDetail yX3_rejectionDetail ∈ wU := mU 1461 (by decide +kernel) (by decide +kernel)
theorem q1462 : Cond.code yX3_rejectionDetail prog_1_method_57_code 1 (some .int) ∈ wU := mU 1462 (by decide +kernel) (by decide +kernel)
theorem q1466 : Cond.methodLink "BookmarkManagerLaw" 156 yX3_causeReason ∈ wU := mU 1466 (by decide +kernel) (by decide +kernel)
theorem q1467 : Cond.instanceMethod yX3_causeReason ∈ wU := mU 1467 (by decide +kernel) (by decide +kernel)
theorem q1468 : Cond.selects "BookmarkManager" yX3_causeReason yX3_causeReason ∈ wU := mU 1468 (by decide +kernel) (by decide +kernel)
theorem q1469 : Cond.code yX3_causeReason prog_1_method_58_code 1 (some .int) ∈ wU := mU 1469 (by decide +kernel) (by decide +kernel)
theorem q1474 : Cond.methodLink "BookmarkManagerLaw" 159 yX3_undo ∈ wU := mU 1474 (by decide +kernel) (by decide +kernel)
theorem q1475 : Cond.instanceMethod yX3_undo ∈ wU := mU 1475 (by decide +kernel) (by decide +kernel)
theorem q1476 : Cond.selects "BookmarkManager" yX3_undo yX3_undo ∈ wU := mU 1476 (by decide +kernel) (by decide +kernel)
theorem q1477 : Cond.code yX3_undo prog_1_method_59_code 1 (some .int) ∈ wU := mU 1477 (by decide +kernel) (by decide +kernel)
theorem q1486 : Cond.methodLink "BookmarkManagerLaw" 162 yX3_restoreSnapshot ∈ wU := mU 1486 (by decide +kernel) (by decide +kernel)
theorem q1487 : Cond.instanceMethod yX3_restoreSnapshot ∈ wU := mU 1487 (by decide +kernel) (by decide +kernel)
theorem q1488 : Cond.selects "BookmarkManager" yX3_restoreSnapshot yX3_restoreSnapshot ∈ wU := mU 1488 (by decide +kernel) (by decide +kernel)
theorem q1489 : Cond.code yX3_restoreSnapshot prog_1_method_62_code 1 (some .int) ∈ wU := mU 1489 (by decide +kernel) (by decide +kernel)
theorem ml_L_7 : CLv RL 7 3 yX3_addRibbon cX3_addRibbon 3 (some .int) 2 := CLv.of TX3 11 ⟨by decide, by decide, by decide +kernel⟩ rfl q805 q806 q807 q56 q808
theorem ml_L_19 : CLv RL 19 3 yX3_addDogEar cX3_addDogEar 3 (some .int) 2 := CLv.of TX3 11 ⟨by decide, by decide, by decide +kernel⟩ rfl q982 q983 q984 q56 q985
theorem ml_L_22 : CLv RL 22 3 yX3_removeMark cX3_removeMark 2 (some .int) 1 := CLv.of TX3 11 ⟨by decide, by decide, by decide +kernel⟩ rfl q989 q990 q991 q56 q992
theorem ml_L_26 : CLv RL 26 3 yX3_moveRibbon cX3_moveRibbon 3 (some .int) 2 := CLv.of TX3 11 ⟨by decide, by decide, by decide +kernel⟩ rfl q1002 q1003 q1004 q56 q1005
theorem ml_L_29 : CLv RL 29 3 yX3_swapSeats cX3_swapSeats 3 (some .int) 2 := CLv.of TX3 11 ⟨by decide, by decide, by decide +kernel⟩ rfl q1009 q1010 q1011 q56 q1012
theorem ml_L_32 : CLv RL 32 3 yX3_isRibbon cX3_isRibbon 2 (some .boolean) 1 := CLv.of TX3 11 ⟨by decide, by decide, by decide +kernel⟩ rfl q1016 q1017 q1018 q56 q1019
theorem ml_L_36 : CLv RL 36 3 yX3_pageOf cX3_pageOf 2 (some .int) 1 := CLv.of TX3 11 ⟨by decide, by decide, by decide +kernel⟩ rfl q1024 q1025 q1026 q56 q1027
theorem ml_L_39 : CLv RL 39 3 yX3_weightOf cX3_weightOf 2 (some .int) 1 := CLv.of TX3 11 ⟨by decide, by decide, by decide +kernel⟩ rfl q1031 q1032 q1033 q56 q1034
theorem ml_L_42 : CLv RL 42 3 yX3_wearOf cX3_wearOf 2 (some .int) 1 := CLv.of TX3 11 ⟨by decide, by decide, by decide +kernel⟩ rfl q1038 q1039 q1040 q56 q1041
theorem ml_L_45 : CLv RL 45 3 yX3_seatOf cX3_seatOf 3 (some .int) 1 := CLv.of TX3 11 ⟨by decide, by decide, by decide +kernel⟩ rfl q1046 q1047 q1048 q56 q1049
theorem ml_L_50 : CLv RL 50 3 yX3_ribbonIn cX3_ribbonIn 2 (some .int) 1 := CLv.of TX3 11 ⟨by decide, by decide, by decide +kernel⟩ rfl q1069 q1070 q1071 q56 q1072
theorem ml_L_53 : CLv RL 53 3 yX3_isHeld cX3_isHeld 2 (some .boolean) 1 := CLv.of TX3 11 ⟨by decide, by decide, by decide +kernel⟩ rfl q1082 q1083 q1084 q56 q1085
theorem ml_L_56 : CLv RL 56 3 yX3_markOn cX3_markOn 2 (some .int) 1 := CLv.of TX3 11 ⟨by decide, by decide, by decide +kernel⟩ rfl q1090 q1091 q1092 q56 q1093
theorem ml_L_59 : CLv RL 59 3 yX3_nextMark cX3_nextMark 2 (some .int) 1 := CLv.of TX3 11 ⟨by decide, by decide, by decide +kernel⟩ rfl q1097 q1098 q1099 q56 q1100
theorem ml_L_62 : CLv RL 62 3 yX3_previousMark cX3_previousMark 2 (some .int) 1 := CLv.of TX3 11 ⟨by decide, by decide, by decide +kernel⟩ rfl q1108 q1109 q1110 q56 q1111
theorem ml_L_65 : CLv RL 65 3 yX3_nearestMark cX3_nearestMark 2 (some .int) 1 := CLv.of TX3 11 ⟨by decide, by decide, by decide +kernel⟩ rfl q1119 q1120 q1121 q56 q1122
theorem ml_L_68 : CLv RL 68 3 yX3_chapterOf cX3_chapterOf 2 (some .int) 1 := CLv.of TX3 11 ⟨by decide, by decide, by decide +kernel⟩ rfl q1132 q1133 q1134 q56 q1135
theorem ml_L_71 : CLv RL 71 3 yX3_startChapter cX3_startChapter 2 (some .int) 1 := CLv.of TX3 11 ⟨by decide, by decide, by decide +kernel⟩ rfl q1140 q1141 q1142 q56 q1143
theorem ml_L_74 : CLv RL 74 3 yX3_voteToDissolve cX3_voteToDissolve 2 (some .boolean) 1 := CLv.of TX3 11 ⟨by decide, by decide, by decide +kernel⟩ rfl q1147 q1148 q1149 q56 q1150
theorem ml_L_77 : CLv RL 77 3 yX3_firstPage cX3_firstPage 2 (some .int) 1 := CLv.of TX3 11 ⟨by decide, by decide, by decide +kernel⟩ rfl q1163 q1164 q1165 q56 q1166
theorem ml_L_80 : CLv RL 80 3 yX3_lastPage cX3_lastPage 2 (some .int) 1 := CLv.of TX3 11 ⟨by decide, by decide, by decide +kernel⟩ rfl q1170 q1171 q1172 q56 q1173
theorem ml_L_83 : CLv RL 83 3 yX3_heldPages cX3_heldPages 2 (some .int) 1 := CLv.of TX3 11 ⟨by decide, by decide, by decide +kernel⟩ rfl q1178 q1179 q1180 q56 q1181
theorem ml_L_86 : CLv RL 86 3 yX3_heldPagesByMarks cX3_heldPagesByMarks 2 (some .int) 1 := CLv.of TX3 11 ⟨by decide, by decide, by decide +kernel⟩ rfl q1186 q1187 q1188 q56 q1189
theorem ml_L_89 : CLv RL 89 3 yX3_chapterWeight cX3_chapterWeight 2 (some .int) 1 := CLv.of TX3 11 ⟨by decide, by decide, by decide +kernel⟩ rfl q1194 q1195 q1196 q56 q1197
theorem ml_L_92 : CLv RL 92 3 yX3_weightInFavour cX3_weightInFavour 2 (some .int) 1 := CLv.of TX3 11 ⟨by decide, by decide, by decide +kernel⟩ rfl q1202 q1203 q1204 q56 q1205
theorem ml_L_95 : CLv RL 95 3 yX3_weightAgainst cX3_weightAgainst 2 (some .int) 1 := CLv.of TX3 11 ⟨by decide, by decide, by decide +kernel⟩ rfl q1210 q1211 q1212 q56 q1213
theorem ml_L_98 : CLv RL 98 3 yX3_weightAgainstByTotal cX3_weightAgainstByTotal 2 (some .int) 1 := CLv.of TX3 11 ⟨by decide, by decide, by decide +kernel⟩ rfl q1218 q1219 q1220 q56 q1221
theorem ml_L_101 : CLv RL 101 3 yX3_wouldDissolve cX3_wouldDissolve 2 (some .boolean) 1 := CLv.of TX3 11 ⟨by decide, by decide, by decide +kernel⟩ rfl q1226 q1227 q1228 q56 q1229
theorem ml_L_104 : CLv RL 104 3 yX3_turnPages cX3_turnPages 3 (some .int) 2 := CLv.of TX3 11 ⟨by decide, by decide, by decide +kernel⟩ rfl q1234 q1235 q1236 q56 q1237
theorem ml_L_108 : CLv RL 108 3 yX3_pagesToNextMark cX3_pagesToNextMark 2 (some .int) 0 := CLv.of TX3 11 ⟨by decide, by decide, by decide +kernel⟩ rfl q1250 q1251 q1252 q56 q1253
theorem ml_L_112 : CLv RL 112 3 yX3_earsAtRisk cX3_earsAtRisk 3 (some .int) 2 := CLv.of TX3 11 ⟨by decide, by decide, by decide +kernel⟩ rfl q1258 q1259 q1260 q56 q1261
theorem ml_L_115 : CLv RL 115 3 yX3_markByPage cX3_markByPage 2 (some .int) 1 := CLv.of TX3 11 ⟨by decide, by decide, by decide +kernel⟩ rfl q1269 q1270 q1271 q56 q1272
theorem ml_L_118 : CLv RL 118 3 yX3_markByWeight cX3_markByWeight 2 (some .int) 1 := CLv.of TX3 11 ⟨by decide, by decide, by decide +kernel⟩ rfl q1276 q1277 q1278 q56 q1279
theorem ml_L_121 : CLv RL 121 3 yX3_meanWeight cX3_meanWeight 1 (some .double) 0 := CLv.of TX3 11 ⟨by decide, by decide, by decide +kernel⟩ rfl q1309 q1310 q1311 q56 q1312
theorem ml_L_127 : CLv RL 127 3 yX3_heldShare cX3_heldShare 3 (some .float) 1 := CLv.of TX3 11 ⟨by decide, by decide, by decide +kernel⟩ rfl q1320 q1321 q1322 q56 q1323
theorem ml_L_131 : CLv RL 131 3 yX3_writeChapter cX3_writeChapter 3 (some .int) 1 := CLv.of TX3 11 ⟨by decide, by decide, by decide +kernel⟩ rfl q1327 q1328 q1329 q56 q1330
theorem ml_L_134 : CLv RL 134 3 yX3_outputAt cX3_outputAt 2 (some .char) 1 := CLv.of TX3 11 ⟨by decide, by decide, by decide +kernel⟩ rfl q1339 q1340 q1341 q56 q1342
theorem ml_L_138 : CLv RL 138 3 yX3_appendInput cX3_appendInput 2 (some .int) 1 := CLv.of TX3 11 ⟨by decide, by decide, by decide +kernel⟩ rfl q1358 q1359 q1360 q56 q1361
theorem ml_L_144 : CLv RL 144 3 yX3_execute cX3_execute 7 (some .int) 0 := CLv.of TX3 11 ⟨by decide, by decide, by decide +kernel⟩ rfl q1386 q1387 q1388 q56 q1389
theorem ml_L_147 : CLv RL 147 3 yX3_syntaxErrorOffset cX3_syntaxErrorOffset 1 (some .int) 0 := CLv.of TX3 11 ⟨by decide, by decide, by decide +kernel⟩ rfl q1439 q1440 q1441 q56 q1442
theorem ml_L_150 : CLv RL 150 3 yX3_rejectionReason cX3_rejectionReason 1 (some .int) 0 := CLv.of TX3 11 ⟨by decide, by decide, by decide +kernel⟩ rfl q1447 q1448 q1449 q56 q1450
theorem ml_L_153 : CLv RL 153 3 yX3_rejectionDetail cX3_rejectionDetail 1 (some .int) 0 := CLv.of TX3 11 ⟨by decide, by decide, by decide +kernel⟩ rfl q1459 q1460 q1461 q56 q1462
theorem ml_L_156 : CLv RL 156 3 yX3_causeReason cX3_causeReason 1 (some .int) 0 := CLv.of TX3 11 ⟨by decide, by decide, by decide +kernel⟩ rfl q1466 q1467 q1468 q56 q1469
theorem ml_L_159 : CLv RL 159 3 yX3_undo cX3_undo 1 (some .int) 0 := CLv.of TX3 11 ⟨by decide, by decide, by decide +kernel⟩ rfl q1474 q1475 q1476 q56 q1477
theorem ml_L_162 : CLv RL 162 3 yX3_restoreSnapshot cX3_restoreSnapshot 1 (some .int) 0 := CLv.of TX3 11 ⟨by decide, by decide, by decide +kernel⟩ rfl q1486 q1487 q1488 q56 q1489
/-- the two arrays that answers are put into, and the object -/
abbrev oW (g : G0) (A : XA) (o od : Nat) (f : Nat → Int64) (fd : Nat → UInt64) (x : XV) : va_W := [(o, aL g 1 f), (od, aD g 1 fd)] ++ xW g A x
/-- what a wrapper returns and leaves: whole numbers -/
def wI (g : G0) (A : XA) (o od : Nat) (fd : Nat → UInt64) (codes : List String) (R : (Int32 × XV) ⊕ (String × XV)) : Option Value → va_W → Prop := fun rv w1 => match R with
  | .inl q => ∃ f', rv = some (.int 0) ∧ w1 = oW g A o od f' fd q.2 ∧ f' 0 = q.1.toInt64
  | .inr q => ∃ f' j, codes[j]? = some q.1 ∧ rv = some (.int (nI (j + 1))) ∧ w1 = oW g A o od f' fd q.2
/-- .. truth values -/
def wB (g : G0) (A : XA) (o od : Nat) (fd : Nat → UInt64) (codes : List String) (R : (Int32 × XV) ⊕ (String × XV)) : Option Value → va_W → Prop := fun rv w1 => match R with
  | .inl q => ∃ f', rv = some (.int 0) ∧ w1 = oW g A o od f' fd q.2 ∧ f' 0 = (if q.1 = 0 then 0 else 1)
  | .inr q => ∃ f' j, codes[j]? = some q.1 ∧ rv = some (.int (nI (j + 1))) ∧ w1 = oW g A o od f' fd q.2
def codesOk (codes : List String) (R : (Int32 × XV) ⊕ (String × XV)) : Prop := ∀ q, R = .inr q → ∃ j : Nat, codes[j]? = some q.1
theorem upL_0 {f : Nat → Int64} {v : Int64} : vp_updL f (cl (0 : Int32)) v 0 = v := by
  show vp_updL f 0 v 0 = v
  unfold vp_updL
  rw [if_pos rfl]
