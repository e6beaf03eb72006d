/-! ===== output: names, links ===== -/
abbrev cX3_writeMark : ByteArray := prog_1_method_72_code
def yX3_writeMark : MethodName := ⟨RX3, "writeMark", "(I)V"⟩
abbrev cX3_writeSeat : ByteArray := prog_1_method_73_code
def yX3_writeSeat : MethodName := ⟨RX3, "writeSeat", "(I)V"⟩
abbrev cX3_writeChapter : ByteArray := prog_1_method_50_code
def yX3_writeChapter : MethodName := ⟨RX3, "writeChapter", "(I)I"⟩
abbrev cX3_writeSeats : ByteArray := prog_1_method_51_code
def yX3_writeSeats : MethodName := ⟨RX3, "writeSeats", "()I"⟩
abbrev cX3_outputAt : ByteArray := prog_1_method_52_code
def yX3_outputAt : MethodName := ⟨RX3, "outputAt", "(I)C"⟩
theorem dX3_writeMark_0 : decode cX3_writeMark 0 = .ok (.aload_n 0, 1) := by decide +kernel
theorem dX3_writeMark_1 : decode cX3_writeMark 1 = .ok (.getfield 39, 3) := by decide +kernel
theorem dX3_writeMark_4 : decode cX3_writeMark 4 = .ok (.bipush 32, 2) := by decide +kernel
theorem dX3_writeMark_6 : decode cX3_writeMark 6 = .ok (.invokevirtual 234, 3) := by decide +kernel
theorem dX3_writeMark_9 : decode cX3_writeMark 9 = .ok (.pop, 1) := by decide +kernel
theorem dX3_writeMark_10 : decode cX3_writeMark 10 = .ok (.aload_n 0, 1) := by decide +kernel
theorem dX3_writeMark_11 : decode cX3_writeMark 11 = .ok (.getfield 39, 3) := by decide +kernel
theorem dX3_writeMark_14 : decode cX3_writeMark 14 = .ok (.aload_n 0, 1) := by decide +kernel
theorem dX3_writeMark_15 : decode cX3_writeMark 15 = .ok (.getfield 10, 3) := by decide +kernel
theorem dX3_writeMark_18 : decode cX3_writeMark 18 = .ok (.iload_n 1, 1) := by decide +kernel
theorem dX3_writeMark_19 : decode cX3_writeMark 19 = .ok (.invokevirtual 82, 3) := by decide +kernel
theorem dX3_writeMark_22 : decode cX3_writeMark 22 = .ok (.ifCond .eq 8, 3) := by decide +kernel
theorem dX3_writeMark_25 : decode cX3_writeMark 25 = .ok (.bipush 114, 2) := by decide +kernel
theorem dX3_writeMark_27 : decode cX3_writeMark 27 = .ok (.goto 5, 3) := by decide +kernel
theorem dX3_writeMark_30 : decode cX3_writeMark 30 = .ok (.bipush 101, 2) := by decide +kernel
theorem dX3_writeMark_32 : decode cX3_writeMark 32 = .ok (.invokevirtual 234, 3) := by decide +kernel
theorem dX3_writeMark_35 : decode cX3_writeMark 35 = .ok (.pop, 1) := by decide +kernel
theorem dX3_writeMark_36 : decode cX3_writeMark 36 = .ok (.aload_n 0, 1) := by decide +kernel
theorem dX3_writeMark_37 : decode cX3_writeMark 37 = .ok (.getfield 39, 3) := by decide +kernel
theorem dX3_writeMark_40 : decode cX3_writeMark 40 = .ok (.aload_n 0, 1) := by decide +kernel
theorem dX3_writeMark_41 : decode cX3_writeMark 41 = .ok (.getfield 10, 3) := by decide +kernel
theorem dX3_writeMark_44 : decode cX3_writeMark 44 = .ok (.getfield 86, 3) := by decide +kernel
theorem dX3_writeMark_47 : decode cX3_writeMark 47 = .ok (.iload_n 1, 1) := by decide +kernel
theorem dX3_writeMark_48 : decode cX3_writeMark 48 = .ok (.iaload, 1) := by decide +kernel
theorem dX3_writeMark_49 : decode cX3_writeMark 49 = .ok (.invokevirtual 230, 3) := by decide +kernel
theorem dX3_writeMark_52 : decode cX3_writeMark 52 = .ok (.pop, 1) := by decide +kernel
theorem dX3_writeMark_53 : decode cX3_writeMark 53 = .ok (.aload_n 0, 1) := by decide +kernel
theorem dX3_writeMark_54 : decode cX3_writeMark 54 = .ok (.getfield 39, 3) := by decide +kernel
theorem dX3_writeMark_57 : decode cX3_writeMark 57 = .ok (.bipush 42, 2) := by decide +kernel
theorem dX3_writeMark_59 : decode cX3_writeMark 59 = .ok (.invokevirtual 234, 3) := by decide +kernel
theorem dX3_writeMark_62 : decode cX3_writeMark 62 = .ok (.pop, 1) := by decide +kernel
theorem dX3_writeMark_63 : decode cX3_writeMark 63 = .ok (.aload_n 0, 1) := by decide +kernel
theorem dX3_writeMark_64 : decode cX3_writeMark 64 = .ok (.getfield 39, 3) := by decide +kernel
theorem dX3_writeMark_67 : decode cX3_writeMark 67 = .ok (.aload_n 0, 1) := by decide +kernel
theorem dX3_writeMark_68 : decode cX3_writeMark 68 = .ok (.getfield 10, 3) := by decide +kernel
theorem dX3_writeMark_71 : decode cX3_writeMark 71 = .ok (.getfield 90, 3) := by decide +kernel
theorem dX3_writeMark_74 : decode cX3_writeMark 74 = .ok (.iload_n 1, 1) := by decide +kernel
theorem dX3_writeMark_75 : decode cX3_writeMark 75 = .ok (.iaload, 1) := by decide +kernel
theorem dX3_writeMark_76 : decode cX3_writeMark 76 = .ok (.invokevirtual 230, 3) := by decide +kernel
theorem dX3_writeMark_79 : decode cX3_writeMark 79 = .ok (.pop, 1) := by decide +kernel
theorem dX3_writeMark_80 : decode cX3_writeMark 80 = .ok (.return_, 1) := by decide +kernel
theorem dX3_writeSeat_0 : decode cX3_writeSeat 0 = .ok (.aload_n 0, 1) := by decide +kernel
theorem dX3_writeSeat_1 : decode cX3_writeSeat 1 = .ok (.getfield 10, 3) := by decide +kernel
theorem dX3_writeSeat_4 : decode cX3_writeSeat 4 = .ok (.iload_n 1, 1) := by decide +kernel
theorem dX3_writeSeat_5 : decode cX3_writeSeat 5 = .ok (.invokevirtual 111, 3) := by decide +kernel
theorem dX3_writeSeat_8 : decode cX3_writeSeat 8 = .ok (.istore_n 2, 1) := by decide +kernel
theorem dX3_writeSeat_9 : decode cX3_writeSeat 9 = .ok (.iload_n 2, 1) := by decide +kernel
theorem dX3_writeSeat_10 : decode cX3_writeSeat 10 = .ok (.iconst (-1), 1) := by decide +kernel
theorem dX3_writeSeat_11 : decode cX3_writeSeat 11 = .ok (.if_icmp .ne 16, 3) := by decide +kernel
theorem dX3_writeSeat_14 : decode cX3_writeSeat 14 = .ok (.aload_n 0, 1) := by decide +kernel
theorem dX3_writeSeat_15 : decode cX3_writeSeat 15 = .ok (.getfield 39, 3) := by decide +kernel
theorem dX3_writeSeat_18 : decode cX3_writeSeat 18 = .ok (.bipush 45, 2) := by decide +kernel
theorem dX3_writeSeat_20 : decode cX3_writeSeat 20 = .ok (.invokevirtual 234, 3) := by decide +kernel
theorem dX3_writeSeat_23 : decode cX3_writeSeat 23 = .ok (.pop, 1) := by decide +kernel
theorem dX3_writeSeat_24 : decode cX3_writeSeat 24 = .ok (.goto 20, 3) := by decide +kernel
theorem dX3_writeSeat_27 : decode cX3_writeSeat 27 = .ok (.aload_n 0, 1) := by decide +kernel
theorem dX3_writeSeat_28 : decode cX3_writeSeat 28 = .ok (.getfield 39, 3) := by decide +kernel
theorem dX3_writeSeat_31 : decode cX3_writeSeat 31 = .ok (.aload_n 0, 1) := by decide +kernel
theorem dX3_writeSeat_32 : decode cX3_writeSeat 32 = .ok (.getfield 10, 3) := by decide +kernel
theorem dX3_writeSeat_35 : decode cX3_writeSeat 35 = .ok (.getfield 86, 3) := by decide +kernel
theorem dX3_writeSeat_38 : decode cX3_writeSeat 38 = .ok (.iload_n 2, 1) := by decide +kernel
theorem dX3_writeSeat_39 : decode cX3_writeSeat 39 = .ok (.iaload, 1) := by decide +kernel
theorem dX3_writeSeat_40 : decode cX3_writeSeat 40 = .ok (.invokevirtual 230, 3) := by decide +kernel
theorem dX3_writeSeat_43 : decode cX3_writeSeat 43 = .ok (.pop, 1) := by decide +kernel
theorem dX3_writeSeat_44 : decode cX3_writeSeat 44 = .ok (.return_, 1) := by decide +kernel
theorem dX3_writeChapter_0 : decode cX3_writeChapter 0 = .ok (.aload_n 0, 1) := by decide +kernel
theorem dX3_writeChapter_1 : decode cX3_writeChapter 1 = .ok (.iload_n 1, 1) := by decide +kernel
theorem dX3_writeChapter_2 : decode cX3_writeChapter 2 = .ok (.invokevirtual 132, 3) := by decide +kernel
theorem dX3_writeChapter_5 : decode cX3_writeChapter 5 = .ok (.aload_n 0, 1) := by decide +kernel
theorem dX3_writeChapter_6 : decode cX3_writeChapter 6 = .ok (.getfield 39, 3) := by decide +kernel
theorem dX3_writeChapter_9 : decode cX3_writeChapter 9 = .ok (.iconst 0, 1) := by decide +kernel
theorem dX3_writeChapter_10 : decode cX3_writeChapter 10 = .ok (.invokevirtual 227, 3) := by decide +kernel
theorem dX3_writeChapter_13 : decode cX3_writeChapter 13 = .ok (.aload_n 0, 1) := by decide +kernel
theorem dX3_writeChapter_14 : decode cX3_writeChapter 14 = .ok (.getfield 39, 3) := by decide +kernel
theorem dX3_writeChapter_17 : decode cX3_writeChapter 17 = .ok (.aload_n 0, 1) := by decide +kernel
theorem dX3_writeChapter_18 : decode cX3_writeChapter 18 = .ok (.getfield 10, 3) := by decide +kernel
theorem dX3_writeChapter_21 : decode cX3_writeChapter 21 = .ok (.getfield 135, 3) := by decide +kernel
theorem dX3_writeChapter_24 : decode cX3_writeChapter 24 = .ok (.iload_n 1, 1) := by decide +kernel
theorem dX3_writeChapter_25 : decode cX3_writeChapter 25 = .ok (.iaload, 1) := by decide +kernel
theorem dX3_writeChapter_26 : decode cX3_writeChapter 26 = .ok (.invokevirtual 230, 3) := by decide +kernel
theorem dX3_writeChapter_29 : decode cX3_writeChapter 29 = .ok (.pop, 1) := by decide +kernel
theorem dX3_writeChapter_30 : decode cX3_writeChapter 30 = .ok (.aload_n 0, 1) := by decide +kernel
theorem dX3_writeChapter_31 : decode cX3_writeChapter 31 = .ok (.getfield 39, 3) := by decide +kernel
theorem dX3_writeChapter_34 : decode cX3_writeChapter 34 = .ok (.bipush 45, 2) := by decide +kernel
theorem dX3_writeChapter_36 : decode cX3_writeChapter 36 = .ok (.invokevirtual 234, 3) := by decide +kernel
theorem dX3_writeChapter_39 : decode cX3_writeChapter 39 = .ok (.pop, 1) := by decide +kernel
theorem dX3_writeChapter_40 : decode cX3_writeChapter 40 = .ok (.aload_n 0, 1) := by decide +kernel
theorem dX3_writeChapter_41 : decode cX3_writeChapter 41 = .ok (.getfield 39, 3) := by decide +kernel
theorem dX3_writeChapter_44 : decode cX3_writeChapter 44 = .ok (.aload_n 0, 1) := by decide +kernel
theorem dX3_writeChapter_45 : decode cX3_writeChapter 45 = .ok (.getfield 10, 3) := by decide +kernel
theorem dX3_writeChapter_48 : decode cX3_writeChapter 48 = .ok (.iload_n 1, 1) := by decide +kernel
theorem dX3_writeChapter_49 : decode cX3_writeChapter 49 = .ok (.invokevirtual 138, 3) := by decide +kernel
theorem dX3_writeChapter_52 : decode cX3_writeChapter 52 = .ok (.invokevirtual 230, 3) := by decide +kernel
theorem dX3_writeChapter_55 : decode cX3_writeChapter 55 = .ok (.pop, 1) := by decide +kernel
theorem dX3_writeChapter_56 : decode cX3_writeChapter 56 = .ok (.iconst 0, 1) := by decide +kernel
theorem dX3_writeChapter_57 : decode cX3_writeChapter 57 = .ok (.istore_n 2, 1) := by decide +kernel
theorem dX3_writeChapter_58 : decode cX3_writeChapter 58 = .ok (.iload_n 2, 1) := by decide +kernel
theorem dX3_writeChapter_59 : decode cX3_writeChapter 59 = .ok (.aload_n 0, 1) := by decide +kernel
theorem dX3_writeChapter_60 : decode cX3_writeChapter 60 = .ok (.getfield 10, 3) := by decide +kernel
theorem dX3_writeChapter_63 : decode cX3_writeChapter 63 = .ok (.getfield 178, 3) := by decide +kernel
theorem dX3_writeChapter_66 : decode cX3_writeChapter 66 = .ok (.if_icmp .ge 26, 3) := by decide +kernel
theorem dX3_writeChapter_69 : decode cX3_writeChapter 69 = .ok (.aload_n 0, 1) := by decide +kernel
theorem dX3_writeChapter_70 : decode cX3_writeChapter 70 = .ok (.getfield 10, 3) := by decide +kernel
theorem dX3_writeChapter_73 : decode cX3_writeChapter 73 = .ok (.iload_n 2, 1) := by decide +kernel
theorem dX3_writeChapter_74 : decode cX3_writeChapter 74 = .ok (.iload_n 1, 1) := by decide +kernel
theorem dX3_writeChapter_75 : decode cX3_writeChapter 75 = .ok (.invokevirtual 237, 3) := by decide +kernel
theorem dX3_writeChapter_78 : decode cX3_writeChapter 78 = .ok (.ifCond .eq 8, 3) := by decide +kernel
theorem dX3_writeChapter_81 : decode cX3_writeChapter 81 = .ok (.aload_n 0, 1) := by decide +kernel
theorem dX3_writeChapter_82 : decode cX3_writeChapter 82 = .ok (.iload_n 2, 1) := by decide +kernel
theorem dX3_writeChapter_83 : decode cX3_writeChapter 83 = .ok (.invokevirtual 241, 3) := by decide +kernel
theorem dX3_writeChapter_86 : decode cX3_writeChapter 86 = .ok (.iinc 2 1, 3) := by decide +kernel
theorem dX3_writeChapter_89 : decode cX3_writeChapter 89 = .ok (.goto (-31), 3) := by decide +kernel
theorem dX3_writeChapter_92 : decode cX3_writeChapter 92 = .ok (.aload_n 0, 1) := by decide +kernel
theorem dX3_writeChapter_93 : decode cX3_writeChapter 93 = .ok (.getfield 39, 3) := by decide +kernel
theorem dX3_writeChapter_96 : decode cX3_writeChapter 96 = .ok (.invokevirtual 244, 3) := by decide +kernel
theorem dX3_writeChapter_99 : decode cX3_writeChapter 99 = .ok (.ireturn, 1) := by decide +kernel
theorem dX3_writeSeats_0 : decode cX3_writeSeats 0 = .ok (.aload_n 0, 1) := by decide +kernel
theorem dX3_writeSeats_1 : decode cX3_writeSeats 1 = .ok (.getfield 39, 3) := by decide +kernel
theorem dX3_writeSeats_4 : decode cX3_writeSeats 4 = .ok (.iconst 0, 1) := by decide +kernel
theorem dX3_writeSeats_5 : decode cX3_writeSeats 5 = .ok (.invokevirtual 227, 3) := by decide +kernel
theorem dX3_writeSeats_8 : decode cX3_writeSeats 8 = .ok (.iconst 0, 1) := by decide +kernel
theorem dX3_writeSeats_9 : decode cX3_writeSeats 9 = .ok (.istore_n 1, 1) := by decide +kernel
theorem dX3_writeSeats_10 : decode cX3_writeSeats 10 = .ok (.iload_n 1, 1) := by decide +kernel
theorem dX3_writeSeats_11 : decode cX3_writeSeats 11 = .ok (.iconst 5, 1) := by decide +kernel
theorem dX3_writeSeats_12 : decode cX3_writeSeats 12 = .ok (.if_icmp .ge 28, 3) := by decide +kernel
theorem dX3_writeSeats_15 : decode cX3_writeSeats 15 = .ok (.iload_n 1, 1) := by decide +kernel
theorem dX3_writeSeats_16 : decode cX3_writeSeats 16 = .ok (.ifCond .le 13, 3) := by decide +kernel
theorem dX3_writeSeats_19 : decode cX3_writeSeats 19 = .ok (.aload_n 0, 1) := by decide +kernel
theorem dX3_writeSeats_20 : decode cX3_writeSeats 20 = .ok (.getfield 39, 3) := by decide +kernel
theorem dX3_writeSeats_23 : decode cX3_writeSeats 23 = .ok (.bipush 44, 2) := by decide +kernel
theorem dX3_writeSeats_25 : decode cX3_writeSeats 25 = .ok (.invokevirtual 234, 3) := by decide +kernel
theorem dX3_writeSeats_28 : decode cX3_writeSeats 28 = .ok (.pop, 1) := by decide +kernel
theorem dX3_writeSeats_29 : decode cX3_writeSeats 29 = .ok (.aload_n 0, 1) := by decide +kernel
theorem dX3_writeSeats_30 : decode cX3_writeSeats 30 = .ok (.iload_n 1, 1) := by decide +kernel
theorem dX3_writeSeats_31 : decode cX3_writeSeats 31 = .ok (.invokevirtual 247, 3) := by decide +kernel
theorem dX3_writeSeats_34 : decode cX3_writeSeats 34 = .ok (.iinc 1 1, 3) := by decide +kernel
theorem dX3_writeSeats_37 : decode cX3_writeSeats 37 = .ok (.goto (-27), 3) := by decide +kernel
theorem dX3_writeSeats_40 : decode cX3_writeSeats 40 = .ok (.aload_n 0, 1) := by decide +kernel
theorem dX3_writeSeats_41 : decode cX3_writeSeats 41 = .ok (.getfield 39, 3) := by decide +kernel
theorem dX3_writeSeats_44 : decode cX3_writeSeats 44 = .ok (.invokevirtual 244, 3) := by decide +kernel
theorem dX3_writeSeats_47 : decode cX3_writeSeats 47 = .ok (.ireturn, 1) := by decide +kernel
theorem dX3_outputAt_0 : decode cX3_outputAt 0 = .ok (.iload_n 1, 1) := by decide +kernel
theorem dX3_outputAt_1 : decode cX3_outputAt 1 = .ok (.ifCond .lt 14, 3) := by decide +kernel
theorem dX3_outputAt_4 : decode cX3_outputAt 4 = .ok (.iload_n 1, 1) := by decide +kernel
theorem dX3_outputAt_5 : decode cX3_outputAt 5 = .ok (.aload_n 0, 1) := by decide +kernel
theorem dX3_outputAt_6 : decode cX3_outputAt 6 = .ok (.getfield 39, 3) := by decide +kernel
theorem dX3_outputAt_9 : decode cX3_outputAt 9 = .ok (.invokevirtual 244, 3) := by decide +kernel
theorem dX3_outputAt_12 : decode cX3_outputAt 12 = .ok (.if_icmp .lt 13, 3) := by decide +kernel
theorem dX3_outputAt_15 : decode cX3_outputAt 15 = .ok (.new 106, 3) := by decide +kernel
theorem dX3_outputAt_18 : decode cX3_outputAt 18 = .ok (.dup, 1) := by decide +kernel
theorem dX3_outputAt_19 : decode cX3_outputAt 19 = .ok (.ldc 250, 2) := by decide +kernel
theorem dX3_outputAt_21 : decode cX3_outputAt 21 = .ok (.invokespecial 110, 3) := by decide +kernel
theorem dX3_outputAt_24 : decode cX3_outputAt 24 = .ok (.athrow, 1) := by decide +kernel
theorem dX3_outputAt_25 : decode cX3_outputAt 25 = .ok (.aload_n 0, 1) := by decide +kernel
theorem dX3_outputAt_26 : decode cX3_outputAt 26 = .ok (.getfield 39, 3) := by decide +kernel
theorem dX3_outputAt_29 : decode cX3_outputAt 29 = .ok (.iload_n 1, 1) := by decide +kernel
theorem dX3_outputAt_30 : decode cX3_outputAt 30 = .ok (.invokevirtual 252, 3) := by decide +kernel
theorem dX3_outputAt_33 : decode cX3_outputAt 33 = .ok (.ireturn, 1) := by decide +kernel
theorem q243 : Cond.fieldLink "BookmarkManager" 39 "BookmarkManager" "output" "Ljava/lang/StringBuilder;" ∈ wU := mU 191 (by decide +kernel) (by decide +kernel)
theorem q755 : Cond.methodLink "BookmarkManager" 234 yJ4_append_cf468 ∈ wU := mU 903 (by decide +kernel) (by decide +kernel)
theorem q756 : Cond.instanceMethod yJ4_append_cf468 ∈ wU := mU 904 (by decide +kernel) (by decide +kernel)
theorem q757 : Cond.selects "java/lang/StringBuilder" yJ4_append_cf468 yJ4_append_cf468 ∈ wU := mU 905 (by decide +kernel) (by decide +kernel)
theorem q61 : Cond.initialized "java/lang/StringBuilder" ∈ wU := mU 18 (by decide +kernel) (by decide +kernel)
theorem q758 : Cond.code yJ4_append_cf468 prog_23_method_14_code 2 (some (.object "java/lang/StringBuilder")) ∈ wU := mU 906 (by decide +kernel) (by decide +kernel)
theorem q782 : Cond.methodLink "BookmarkManager" 230 yJ4_append_bf812 ∈ wU := mU 902 (by decide +kernel) (by decide +kernel)
theorem q544 : Cond.instanceMethod yJ4_append_bf812 ∈ wU := mU 763 (by decide +kernel) (by decide +kernel)
theorem q545 : Cond.selects "java/lang/StringBuilder" yJ4_append_bf812 yJ4_append_bf812 ∈ wU := mU 764 (by decide +kernel) (by decide +kernel)
theorem q546 : Cond.code yJ4_append_bf812 prog_23_method_15_code 2 (some (.object "java/lang/StringBuilder")) ∈ wU := mU 765 (by decide +kernel) (by decide +kernel)
theorem q408 : Cond.methodLink "BookmarkManager" 227 yJ4_setLength_d00df ∈ wU := mU 627 (by decide +kernel) (by decide +kernel)
theorem q409 : Cond.instanceMethod yJ4_setLength_d00df ∈ wU := mU 628 (by decide +kernel) (by decide +kernel)
theorem q410 : Cond.selects "java/lang/StringBuilder" yJ4_setLength_d00df yJ4_setLength_d00df ∈ wU := mU 629 (by decide +kernel) (by decide +kernel)
theorem q411 : Cond.code yJ4_setLength_d00df prog_23_method_89_code 2 none ∈ wU := mU 630 (by decide +kernel) (by decide +kernel)
theorem q1331 : Cond.methodLink "BookmarkManager" 237 yX0_isIn ∈ wU := mU 925 (by decide +kernel) (by decide +kernel)
theorem q1332 : Cond.methodLink "BookmarkManager" 241 yX3_writeMark ∈ wU := mU 926 (by decide +kernel) (by decide +kernel)
theorem q1334 : Cond.instanceMethod yX3_writeMark ∈ wU := mU 928 (by decide +kernel) (by decide +kernel)
theorem q10 : Cond.selects "BookmarkManager" yX3_writeMark yX3_writeMark ∈ wU := mU 6 (by decide +kernel) (by decide +kernel)
theorem q1335 : Cond.code yX3_writeMark prog_1_method_72_code 2 none ∈ wU := mU 929 (by decide +kernel) (by decide +kernel)
theorem q783 : Cond.methodLink "BookmarkManager" 244 yJ4_length_8abf5 ∈ wU := mU 930 (by decide +kernel) (by decide +kernel)
theorem q590 : Cond.instanceMethod yJ4_length_8abf5 ∈ wU := mU 809 (by decide +kernel) (by decide +kernel)
theorem q1998 : Cond.selects "java/lang/StringBuilder" yJ4_length_8abf5 yJ4_length_8abf5 ∈ wU := mU 1289 (by decide +kernel) (by decide +kernel)
theorem q591 : Cond.code yJ4_length_8abf5 prog_23_method_93_code 1 (some .int) ∈ wU := mU 810 (by decide +kernel) (by decide +kernel)
theorem q777 : Cond.methodLink "BookmarkManager" 247 yX3_writeSeat ∈ wU := mU 935 (by decide +kernel) (by decide +kernel)
theorem q779 : Cond.instanceMethod yX3_writeSeat ∈ wU := mU 937 (by decide +kernel) (by decide +kernel)
theorem q1 : Cond.selects "BookmarkManager" yX3_writeSeat yX3_writeSeat ∈ wU := mU 7 (by decide +kernel) (by decide +kernel)
theorem q780 : Cond.code yX3_writeSeat prog_1_method_73_code 3 none ∈ wU := mU 938 (by decide +kernel) (by decide +kernel)
theorem q1344 : Cond.methodLink "BookmarkManager" 252 yJ4_charAt_5068e ∈ wU := mU 1242 (by decide +kernel) (by decide +kernel)
theorem q1345 : Cond.instanceMethod yJ4_charAt_5068e ∈ wU := mU 1243 (by decide +kernel) (by decide +kernel)
theorem q1346 : Cond.selects "java/lang/StringBuilder" yJ4_charAt_5068e yJ4_charAt_5068e ∈ wU := mU 1244 (by decide +kernel) (by decide +kernel)
theorem q1347 : Cond.code yJ4_charAt_5068e prog_23_method_88_code 2 (some .char) ∈ wU := mU 1245 (by decide +kernel) (by decide +kernel)
theorem fl_X3_39 : FL RX3 39 3 5 := ⟨RX3, TX3, 11, rfl, by decide, iX3, q243⟩
theorem ml_X3_234 : CLv RX3 234 5 yJ4_append_cf468 cJ4_append_cf468 2 (some (.object "java/lang/StringBuilder")) 1 := CLv.of TJ4 4 ⟨by decide, by decide, by decide +kernel⟩ rfl q755 q756 q757 q61 q758
theorem ml_X3_230 : CLv RX3 230 5 yJ4_append_bf812 cJ4_append_bf812 2 (some (.object "java/lang/StringBuilder")) 1 := CLv.of TJ4 4 ⟨by decide, by decide, by decide +kernel⟩ rfl q782 q544 q545 q61 q546
theorem ml_X3_227 : CLv RX3 227 5 yJ4_setLength_d00df cJ4_setLength_d00df 2 none 1 := CLv.of TJ4 4 ⟨by decide, by decide, by decide +kernel⟩ rfl q408 q409 q410 q61 q411
theorem ml_X3_237 : CLv RX3 237 0 yX0_isIn cX0_isIn 4 (some .boolean) 2 := CLv.of TX0 13 ⟨by decide, by decide, by decide +kernel⟩ rfl q1331 q285 q286 q57 q287
theorem ml_X3_241 : CLv RX3 241 3 yX3_writeMark cX3_writeMark 2 none 1 := CLv.of TX3 11 ⟨by decide, by decide, by decide +kernel⟩ rfl q1332 q1334 q10 q56 q1335
theorem ml_X3_244 : CLv RX3 244 5 yJ4_length_8abf5 cJ4_length_8abf5 1 (some .int) 0 := CLv.of TJ4 4 ⟨by decide, by decide, by decide +kernel⟩ rfl q783 q590 q1998 q61 q591
theorem ml_X3_247 : CLv RX3 247 3 yX3_writeSeat cX3_writeSeat 3 none 1 := CLv.of TX3 11 ⟨by decide, by decide, by decide +kernel⟩ rfl q777 q779 q1 q56 q780
theorem ml_X3_252 : CLv RX3 252 5 yJ4_charAt_5068e cJ4_charAt_5068e 2 (some .char) 1 := CLv.of TJ4 4 ⟨by decide, by decide, by decide +kernel⟩ rfl q1344 q1345 q1346 q61 q1347
