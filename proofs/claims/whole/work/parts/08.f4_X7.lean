theorem wd_498 : Cond.code yX7_faultOf cX7_faultOf 2 (some .int) ∈ lw_gd := List.mem_filter.mpr ⟨List.mem_of_getElem? (i := 498) (by decide +kernel), by decide +kernel⟩
theorem wd_81 : Cond.initialized RX7 ∈ lw_gd := List.mem_filter.mpr ⟨List.mem_of_getElem? (i := 81) (by decide +kernel), by decide +kernel⟩
theorem wd_496 : Cond.instanceMethod yX7_faultOf ∈ lw_gd := List.mem_filter.mpr ⟨List.mem_of_getElem? (i := 496) (by decide +kernel), by decide +kernel⟩
theorem wd_497 : Cond.selects RX7 yX7_faultOf yX7_faultOf ∈ lw_gd := List.mem_filter.mpr ⟨List.mem_of_getElem? (i := 497) (by decide +kernel), by decide +kernel⟩
theorem vX7_faultOf : wm_calV t_X7_faultOf 1 := ⟨⟨wd_498, wd_81, by decide +kernel, by decide +kernel, by decide +kernel⟩, wd_496, wd_497⟩
theorem dX7_faultOf_0 : decode t_X7_faultOf.2.1 0 = .ok (.aload_n 0, 1) := by decide +kernel
theorem dX7_faultOf_1 : decode t_X7_faultOf.2.1 1 = .ok (.iload_n 1, 1) := by decide +kernel
theorem dX7_faultOf_2 : decode t_X7_faultOf.2.1 2 = .ok (.putfield 9, 3) := by decide +kernel
theorem wd_170 : Cond.fieldLink RX7 9 "TurnedStones$TownReader" "text" "I" ∈ lw_gd := List.mem_filter.mpr ⟨List.mem_of_getElem? (i := 170) (by decide +kernel), by decide +kernel⟩
theorem gX7_faultOf_2 : wm_pf t_X7_faultOf 2 7 2 .int := ⟨_, _, _, 9, rfl, by decide, wd_170, dX7_faultOf_2, rfl, by decide +kernel⟩
theorem dX7_faultOf_5 : decode t_X7_faultOf.2.1 5 = .ok (.aload_n 0, 1) := by decide +kernel
theorem dX7_faultOf_6 : decode t_X7_faultOf.2.1 6 = .ok (.iconst 0, 1) := by decide +kernel
theorem dX7_faultOf_7 : decode t_X7_faultOf.2.1 7 = .ok (.putfield 15, 3) := by decide +kernel
theorem wd_171 : Cond.fieldLink RX7 15 "TurnedStones$TownReader" "place" "I" ∈ lw_gd := List.mem_filter.mpr ⟨List.mem_of_getElem? (i := 171) (by decide +kernel), by decide +kernel⟩
theorem gX7_faultOf_7 : wm_pf t_X7_faultOf 7 7 3 .int := ⟨_, _, _, 15, rfl, by decide, wd_171, dX7_faultOf_7, rfl, by decide +kernel⟩
theorem dX7_faultOf_10 : decode t_X7_faultOf.2.1 10 = .ok (.aload_n 0, 1) := by decide +kernel
theorem dX7_faultOf_11 : decode t_X7_faultOf.2.1 11 = .ok (.invokevirtual 29, 3) := by decide +kernel
theorem wd_499 : Cond.methodLink RX7 29 yX7_readSize ∈ lw_gd := List.mem_filter.mpr ⟨List.mem_of_getElem? (i := 499) (by decide +kernel), by decide +kernel⟩
theorem iX7_faultOf_11 : wm_iv t_X7_faultOf t_X7_readSize 11 := ⟨29, wd_499, dX7_faultOf_11⟩
theorem dX7_faultOf_14 : decode t_X7_faultOf.2.1 14 = .ok (.ifCond .eq 22, 3) := by decide +kernel
theorem dX7_faultOf_17 : decode t_X7_faultOf.2.1 17 = .ok (.aload_n 0, 1) := by decide +kernel
theorem dX7_faultOf_18 : decode t_X7_faultOf.2.1 18 = .ok (.invokevirtual 33, 3) := by decide +kernel
theorem wd_513 : Cond.methodLink RX7 33 yX7_readStones ∈ lw_gd := List.mem_filter.mpr ⟨List.mem_of_getElem? (i := 513) (by decide +kernel), by decide +kernel⟩
theorem iX7_faultOf_18 : wm_iv t_X7_faultOf t_X7_readStones 18 := ⟨33, wd_513, dX7_faultOf_18⟩
theorem dX7_faultOf_21 : decode t_X7_faultOf.2.1 21 = .ok (.ifCond .eq 15, 3) := by decide +kernel
theorem dX7_faultOf_24 : decode t_X7_faultOf.2.1 24 = .ok (.aload_n 0, 1) := by decide +kernel
theorem dX7_faultOf_25 : decode t_X7_faultOf.2.1 25 = .ok (.invokevirtual 36, 3) := by decide +kernel
theorem wd_540 : Cond.methodLink RX7 36 yX7_readEnd ∈ lw_gd := List.mem_filter.mpr ⟨List.mem_of_getElem? (i := 540) (by decide +kernel), by decide +kernel⟩
theorem iX7_faultOf_25 : wm_iv t_X7_faultOf t_X7_readEnd 25 := ⟨36, wd_540, dX7_faultOf_25⟩
theorem dX7_faultOf_28 : decode t_X7_faultOf.2.1 28 = .ok (.ifCond .eq 8, 3) := by decide +kernel
theorem dX7_faultOf_31 : decode t_X7_faultOf.2.1 31 = .ok (.bipush (-9), 2) := by decide +kernel
theorem dX7_faultOf_33 : decode t_X7_faultOf.2.1 33 = .ok (.goto 7, 3) := by decide +kernel
theorem dX7_faultOf_36 : decode t_X7_faultOf.2.1 36 = .ok (.aload_n 0, 1) := by decide +kernel
theorem dX7_faultOf_37 : decode t_X7_faultOf.2.1 37 = .ok (.getfield 15, 3) := by decide +kernel
theorem gX7_faultOf_37 : wm_gf t_X7_faultOf 37 7 3 := ⟨_, _, _, 15, rfl, by decide, wd_171, dX7_faultOf_37⟩
theorem dX7_faultOf_40 : decode t_X7_faultOf.2.1 40 = .ok (.ireturn, 1) := by decide +kernel
theorem wd_502 : Cond.code yX7_readSize cX7_readSize 1 (some .boolean) ∈ lw_gd := List.mem_filter.mpr ⟨List.mem_of_getElem? (i := 502) (by decide +kernel), by decide +kernel⟩
theorem wd_501 : Cond.instanceMethod yX7_readSize ∈ lw_gd := List.mem_filter.mpr ⟨List.mem_of_getElem? (i := 501) (by decide +kernel), by decide +kernel⟩
theorem wd_4 : Cond.selects RX7 yX7_readSize yX7_readSize ∈ lw_gd := List.mem_filter.mpr ⟨List.mem_of_getElem? (i := 4) (by decide +kernel), by decide +kernel⟩
theorem vX7_readSize : wm_calV t_X7_readSize 0 := ⟨⟨wd_502, wd_81, by decide +kernel, by decide +kernel, by decide +kernel⟩, wd_501, wd_4⟩
theorem dX7_readSize_0 : decode t_X7_readSize.2.1 0 = .ok (.aload_n 0, 1) := by decide +kernel
theorem dX7_readSize_1 : decode t_X7_readSize.2.1 1 = .ok (.invokevirtual 39, 3) := by decide +kernel
theorem wd_503 : Cond.methodLink RX7 39 yX7_skipBlanks ∈ lw_gd := List.mem_filter.mpr ⟨List.mem_of_getElem? (i := 503) (by decide +kernel), by decide +kernel⟩
theorem iX7_readSize_1 : wm_iv t_X7_readSize t_X7_skipBlanks 1 := ⟨39, wd_503, dX7_readSize_1⟩
theorem dX7_readSize_4 : decode t_X7_readSize.2.1 4 = .ok (.aload_n 0, 1) := by decide +kernel
theorem dX7_readSize_5 : decode t_X7_readSize.2.1 5 = .ok (.bipush 103, 2) := by decide +kernel
theorem dX7_readSize_7 : decode t_X7_readSize.2.1 7 = .ok (.bipush 103, 2) := by decide +kernel
theorem dX7_readSize_9 : decode t_X7_readSize.2.1 9 = .ok (.invokevirtual 42, 3) := by decide +kernel
theorem wd_509 : Cond.methodLink RX7 42 yX7_readSign ∈ lw_gd := List.mem_filter.mpr ⟨List.mem_of_getElem? (i := 509) (by decide +kernel), by decide +kernel⟩
theorem iX7_readSize_9 : wm_iv t_X7_readSize t_X7_readSign 9 := ⟨42, wd_509, dX7_readSize_9⟩
theorem dX7_readSize_12 : decode t_X7_readSize.2.1 12 = .ok (.ifCond .eq 14, 3) := by decide +kernel
theorem dX7_readSize_15 : decode t_X7_readSize.2.1 15 = .ok (.aload_n 0, 1) := by decide +kernel
theorem dX7_readSize_16 : decode t_X7_readSize.2.1 16 = .ok (.bipush 49, 2) := by decide +kernel
theorem dX7_readSize_18 : decode t_X7_readSize.2.1 18 = .ok (.bipush 51, 2) := by decide +kernel
theorem dX7_readSize_20 : decode t_X7_readSize.2.1 20 = .ok (.invokevirtual 42, 3) := by decide +kernel
theorem iX7_readSize_20 : wm_iv t_X7_readSize t_X7_readSign 20 := ⟨42, wd_509, dX7_readSize_20⟩
theorem dX7_readSize_23 : decode t_X7_readSize.2.1 23 = .ok (.ifCond .ne 5, 3) := by decide +kernel
theorem dX7_readSize_26 : decode t_X7_readSize.2.1 26 = .ok (.iconst 0, 1) := by decide +kernel
theorem dX7_readSize_27 : decode t_X7_readSize.2.1 27 = .ok (.ireturn, 1) := by decide +kernel
theorem dX7_readSize_28 : decode t_X7_readSize.2.1 28 = .ok (.aload_n 0, 1) := by decide +kernel
theorem dX7_readSize_29 : decode t_X7_readSize.2.1 29 = .ok (.getfield 25, 3) := by decide +kernel
theorem wd_169 : Cond.fieldLink RX7 25 "TurnedStones$TownReader" "into" "LTurnedStones$Stones;" ∈ lw_gd := List.mem_filter.mpr ⟨List.mem_of_getElem? (i := 169) (by decide +kernel), by decide +kernel⟩
theorem gX7_readSize_29 : wm_gf t_X7_readSize 29 7 1 := ⟨_, _, _, 25, rfl, by decide, wd_169, dX7_readSize_29⟩
theorem dX7_readSize_32 : decode t_X7_readSize.2.1 32 = .ok (.aload_n 0, 1) := by decide +kernel
theorem dX7_readSize_33 : decode t_X7_readSize.2.1 33 = .ok (.getfield 18, 3) := by decide +kernel
theorem wd_172 : Cond.fieldLink RX7 18 "TurnedStones$TownReader" "value" "I" ∈ lw_gd := List.mem_filter.mpr ⟨List.mem_of_getElem? (i := 172) (by decide +kernel), by decide +kernel⟩
theorem gX7_readSize_33 : wm_gf t_X7_readSize 33 7 4 := ⟨_, _, _, 18, rfl, by decide, wd_172, dX7_readSize_33⟩
theorem dX7_readSize_36 : decode t_X7_readSize.2.1 36 = .ok (.iconst 1, 1) := by decide +kernel
theorem dX7_readSize_37 : decode t_X7_readSize.2.1 37 = .ok (.iadd, 1) := by decide +kernel
theorem dX7_readSize_38 : decode t_X7_readSize.2.1 38 = .ok (.putfield 46, 3) := by decide +kernel
theorem wd_131 : Cond.fieldLink RX7 46 "TurnedStones$Stones" "wide" "I" ∈ lw_gd := List.mem_filter.mpr ⟨List.mem_of_getElem? (i := 131) (by decide +kernel), by decide +kernel⟩
theorem gX7_readSize_38 : wm_pf t_X7_readSize 38 4 0 .int := ⟨_, _, _, 46, rfl, by decide, wd_131, dX7_readSize_38, rfl, by decide +kernel⟩
theorem dX7_readSize_41 : decode t_X7_readSize.2.1 41 = .ok (.aload_n 0, 1) := by decide +kernel
theorem dX7_readSize_42 : decode t_X7_readSize.2.1 42 = .ok (.bipush 49, 2) := by decide +kernel
theorem dX7_readSize_44 : decode t_X7_readSize.2.1 44 = .ok (.bipush 50, 2) := by decide +kernel
theorem dX7_readSize_46 : decode t_X7_readSize.2.1 46 = .ok (.invokevirtual 42, 3) := by decide +kernel
theorem iX7_readSize_46 : wm_iv t_X7_readSize t_X7_readSign 46 := ⟨42, wd_509, dX7_readSize_46⟩
theorem dX7_readSize_49 : decode t_X7_readSize.2.1 49 = .ok (.ifCond .ne 5, 3) := by decide +kernel
theorem dX7_readSize_52 : decode t_X7_readSize.2.1 52 = .ok (.iconst 0, 1) := by decide +kernel
theorem dX7_readSize_53 : decode t_X7_readSize.2.1 53 = .ok (.ireturn, 1) := by decide +kernel
theorem dX7_readSize_54 : decode t_X7_readSize.2.1 54 = .ok (.aload_n 0, 1) := by decide +kernel
theorem dX7_readSize_55 : decode t_X7_readSize.2.1 55 = .ok (.getfield 25, 3) := by decide +kernel
theorem gX7_readSize_55 : wm_gf t_X7_readSize 55 7 1 := ⟨_, _, _, 25, rfl, by decide, wd_169, dX7_readSize_55⟩
theorem dX7_readSize_58 : decode t_X7_readSize.2.1 58 = .ok (.aload_n 0, 1) := by decide +kernel
theorem dX7_readSize_59 : decode t_X7_readSize.2.1 59 = .ok (.getfield 18, 3) := by decide +kernel
theorem gX7_readSize_59 : wm_gf t_X7_readSize 59 7 4 := ⟨_, _, _, 18, rfl, by decide, wd_172, dX7_readSize_59⟩
theorem dX7_readSize_62 : decode t_X7_readSize.2.1 62 = .ok (.iconst 1, 1) := by decide +kernel
theorem dX7_readSize_63 : decode t_X7_readSize.2.1 63 = .ok (.iadd, 1) := by decide +kernel
theorem dX7_readSize_64 : decode t_X7_readSize.2.1 64 = .ok (.putfield 51, 3) := by decide +kernel
theorem wd_133 : Cond.fieldLink RX7 51 "TurnedStones$Stones" "high" "I" ∈ lw_gd := List.mem_filter.mpr ⟨List.mem_of_getElem? (i := 133) (by decide +kernel), by decide +kernel⟩
theorem gX7_readSize_64 : wm_pf t_X7_readSize 64 4 1 .int := ⟨_, _, _, 51, rfl, by decide, wd_133, dX7_readSize_64, rfl, by decide +kernel⟩
theorem dX7_readSize_67 : decode t_X7_readSize.2.1 67 = .ok (.iconst 1, 1) := by decide +kernel
theorem dX7_readSize_68 : decode t_X7_readSize.2.1 68 = .ok (.ireturn, 1) := by decide +kernel
theorem wd_516 : Cond.code yX7_readStones cX7_readStones 2 (some .boolean) ∈ lw_gd := List.mem_filter.mpr ⟨List.mem_of_getElem? (i := 516) (by decide +kernel), by decide +kernel⟩
theorem wd_515 : Cond.instanceMethod yX7_readStones ∈ lw_gd := List.mem_filter.mpr ⟨List.mem_of_getElem? (i := 515) (by decide +kernel), by decide +kernel⟩
theorem wd_7 : Cond.selects RX7 yX7_readStones yX7_readStones ∈ lw_gd := List.mem_filter.mpr ⟨List.mem_of_getElem? (i := 7) (by decide +kernel), by decide +kernel⟩
theorem vX7_readStones : wm_calV t_X7_readStones 0 := ⟨⟨wd_516, wd_81, by decide +kernel, by decide +kernel, by decide +kernel⟩, wd_515, wd_7⟩
theorem dX7_readStones_0 : decode t_X7_readStones.2.1 0 = .ok (.iconst 0, 1) := by decide +kernel
theorem dX7_readStones_1 : decode t_X7_readStones.2.1 1 = .ok (.istore_n 1, 1) := by decide +kernel
theorem dX7_readStones_2 : decode t_X7_readStones.2.1 2 = .ok (.iload_n 1, 1) := by decide +kernel
theorem dX7_readStones_3 : decode t_X7_readStones.2.1 3 = .ok (.aload_n 0, 1) := by decide +kernel
theorem dX7_readStones_4 : decode t_X7_readStones.2.1 4 = .ok (.getfield 25, 3) := by decide +kernel
theorem gX7_readStones_4 : wm_gf t_X7_readStones 4 7 1 := ⟨_, _, _, 25, rfl, by decide, wd_169, dX7_readStones_4⟩
theorem dX7_readStones_7 : decode t_X7_readStones.2.1 7 = .ok (.invokevirtual 54, 3) := by decide +kernel
theorem wd_517 : Cond.methodLink RX7 54 yX4_number ∈ lw_gd := List.mem_filter.mpr ⟨List.mem_of_getElem? (i := 517) (by decide +kernel), by decide +kernel⟩
theorem iX7_readStones_7 : wm_iv t_X7_readStones t_X4_number 7 := ⟨54, wd_517, dX7_readStones_7⟩
theorem dX7_readStones_10 : decode t_X7_readStones.2.1 10 = .ok (.if_icmp .ge 39, 3) := by decide +kernel
theorem dX7_readStones_13 : decode t_X7_readStones.2.1 13 = .ok (.aload_n 0, 1) := by decide +kernel
theorem dX7_readStones_14 : decode t_X7_readStones.2.1 14 = .ok (.invokevirtual 39, 3) := by decide +kernel
theorem iX7_readStones_14 : wm_iv t_X7_readStones t_X7_skipBlanks 14 := ⟨39, wd_503, dX7_readStones_14⟩
theorem dX7_readStones_17 : decode t_X7_readStones.2.1 17 = .ok (.aload_n 0, 1) := by decide +kernel
theorem dX7_readStones_18 : decode t_X7_readStones.2.1 18 = .ok (.iload_n 1, 1) := by decide +kernel
theorem dX7_readStones_19 : decode t_X7_readStones.2.1 19 = .ok (.invokevirtual 58, 3) := by decide +kernel
theorem wd_521 : Cond.methodLink RX7 58 yX7_readKind ∈ lw_gd := List.mem_filter.mpr ⟨List.mem_of_getElem? (i := 521) (by decide +kernel), by decide +kernel⟩
theorem iX7_readStones_19 : wm_iv t_X7_readStones t_X7_readKind 19 := ⟨58, wd_521, dX7_readStones_19⟩
theorem dX7_readStones_22 : decode t_X7_readStones.2.1 22 = .ok (.ifCond .eq 19, 3) := by decide +kernel
theorem dX7_readStones_25 : decode t_X7_readStones.2.1 25 = .ok (.aload_n 0, 1) := by decide +kernel
theorem dX7_readStones_26 : decode t_X7_readStones.2.1 26 = .ok (.iload_n 1, 1) := by decide +kernel
theorem dX7_readStones_27 : decode t_X7_readStones.2.1 27 = .ok (.invokevirtual 62, 3) := by decide +kernel
theorem wd_528 : Cond.methodLink RX7 62 yX7_readWords ∈ lw_gd := List.mem_filter.mpr ⟨List.mem_of_getElem? (i := 528) (by decide +kernel), by decide +kernel⟩
theorem iX7_readStones_27 : wm_iv t_X7_readStones t_X7_readWords 27 := ⟨62, wd_528, dX7_readStones_27⟩
theorem dX7_readStones_30 : decode t_X7_readStones.2.1 30 = .ok (.ifCond .eq 11, 3) := by decide +kernel
theorem dX7_readStones_33 : decode t_X7_readStones.2.1 33 = .ok (.aload_n 0, 1) := by decide +kernel
theorem dX7_readStones_34 : decode t_X7_readStones.2.1 34 = .ok (.iload_n 1, 1) := by decide +kernel
theorem dX7_readStones_35 : decode t_X7_readStones.2.1 35 = .ok (.invokevirtual 65, 3) := by decide +kernel
theorem wd_532 : Cond.methodLink RX7 65 yX7_readSide ∈ lw_gd := List.mem_filter.mpr ⟨List.mem_of_getElem? (i := 532) (by decide +kernel), by decide +kernel⟩
theorem iX7_readStones_35 : wm_iv t_X7_readStones t_X7_readSide 35 := ⟨65, wd_532, dX7_readStones_35⟩
theorem dX7_readStones_38 : decode t_X7_readStones.2.1 38 = .ok (.ifCond .ne 5, 3) := by decide +kernel
theorem dX7_readStones_41 : decode t_X7_readStones.2.1 41 = .ok (.iconst 0, 1) := by decide +kernel
theorem dX7_readStones_42 : decode t_X7_readStones.2.1 42 = .ok (.ireturn, 1) := by decide +kernel
theorem dX7_readStones_43 : decode t_X7_readStones.2.1 43 = .ok (.iinc 1 1, 3) := by decide +kernel
theorem dX7_readStones_46 : decode t_X7_readStones.2.1 46 = .ok (.goto (-44), 3) := by decide +kernel
theorem dX7_readStones_49 : decode t_X7_readStones.2.1 49 = .ok (.iconst 1, 1) := by decide +kernel
theorem dX7_readStones_50 : decode t_X7_readStones.2.1 50 = .ok (.ireturn, 1) := by decide +kernel
theorem wd_543 : Cond.code yX7_readEnd cX7_readEnd 1 (some .boolean) ∈ lw_gd := List.mem_filter.mpr ⟨List.mem_of_getElem? (i := 543) (by decide +kernel), by decide +kernel⟩
theorem wd_542 : Cond.instanceMethod yX7_readEnd ∈ lw_gd := List.mem_filter.mpr ⟨List.mem_of_getElem? (i := 542) (by decide +kernel), by decide +kernel⟩
theorem wd_11 : Cond.selects RX7 yX7_readEnd yX7_readEnd ∈ lw_gd := List.mem_filter.mpr ⟨List.mem_of_getElem? (i := 11) (by decide +kernel), by decide +kernel⟩
theorem vX7_readEnd : wm_calV t_X7_readEnd 0 := ⟨⟨wd_543, wd_81, by decide +kernel, by decide +kernel, by decide +kernel⟩, wd_542, wd_11⟩
theorem dX7_readEnd_0 : decode t_X7_readEnd.2.1 0 = .ok (.aload_n 0, 1) := by decide +kernel
theorem dX7_readEnd_1 : decode t_X7_readEnd.2.1 1 = .ok (.invokevirtual 39, 3) := by decide +kernel
theorem iX7_readEnd_1 : wm_iv t_X7_readEnd t_X7_skipBlanks 1 := ⟨39, wd_503, dX7_readEnd_1⟩
theorem dX7_readEnd_4 : decode t_X7_readEnd.2.1 4 = .ok (.aload_n 0, 1) := by decide +kernel
theorem dX7_readEnd_5 : decode t_X7_readEnd.2.1 5 = .ok (.getfield 15, 3) := by decide +kernel
theorem gX7_readEnd_5 : wm_gf t_X7_readEnd 5 7 3 := ⟨_, _, _, 15, rfl, by decide, wd_171, dX7_readEnd_5⟩
theorem dX7_readEnd_8 : decode t_X7_readEnd.2.1 8 = .ok (.aload_n 0, 1) := by decide +kernel
theorem dX7_readEnd_9 : decode t_X7_readEnd.2.1 9 = .ok (.getfield 21, 3) := by decide +kernel
theorem wd_168 : Cond.fieldLink RX7 21 "TurnedStones$TownReader" "texts" "LTurnedStones$Table;" ∈ lw_gd := List.mem_filter.mpr ⟨List.mem_of_getElem? (i := 168) (by decide +kernel), by decide +kernel⟩
theorem gX7_readEnd_9 : wm_gf t_X7_readEnd 9 7 0 := ⟨_, _, _, 21, rfl, by decide, wd_168, dX7_readEnd_9⟩
theorem dX7_readEnd_12 : decode t_X7_readEnd.2.1 12 = .ok (.aload_n 0, 1) := by decide +kernel
theorem dX7_readEnd_13 : decode t_X7_readEnd.2.1 13 = .ok (.getfield 9, 3) := by decide +kernel
theorem gX7_readEnd_13 : wm_gf t_X7_readEnd 13 7 2 := ⟨_, _, _, 9, rfl, by decide, wd_170, dX7_readEnd_13⟩
theorem dX7_readEnd_16 : decode t_X7_readEnd.2.1 16 = .ok (.invokevirtual 68, 3) := by decide +kernel
theorem wd_507 : Cond.methodLink RX7 68 yX5_size ∈ lw_gd := List.mem_filter.mpr ⟨List.mem_of_getElem? (i := 507) (by decide +kernel), by decide +kernel⟩
theorem iX7_readEnd_16 : wm_iv t_X7_readEnd t_X5_size 16 := ⟨68, wd_507, dX7_readEnd_16⟩
theorem dX7_readEnd_19 : decode t_X7_readEnd.2.1 19 = .ok (.if_icmp .lt 7, 3) := by decide +kernel
theorem dX7_readEnd_22 : decode t_X7_readEnd.2.1 22 = .ok (.iconst 1, 1) := by decide +kernel
theorem dX7_readEnd_23 : decode t_X7_readEnd.2.1 23 = .ok (.goto 4, 3) := by decide +kernel
theorem dX7_readEnd_26 : decode t_X7_readEnd.2.1 26 = .ok (.iconst 0, 1) := by decide +kernel
theorem dX7_readEnd_27 : decode t_X7_readEnd.2.1 27 = .ok (.ireturn, 1) := by decide +kernel
theorem wd_524 : Cond.code yX7_readKind cX7_readKind 3 (some .boolean) ∈ lw_gd := List.mem_filter.mpr ⟨List.mem_of_getElem? (i := 524) (by decide +kernel), by decide +kernel⟩
theorem wd_523 : Cond.instanceMethod yX7_readKind ∈ lw_gd := List.mem_filter.mpr ⟨List.mem_of_getElem? (i := 523) (by decide +kernel), by decide +kernel⟩
theorem wd_8 : Cond.selects RX7 yX7_readKind yX7_readKind ∈ lw_gd := List.mem_filter.mpr ⟨List.mem_of_getElem? (i := 8) (by decide +kernel), by decide +kernel⟩
theorem vX7_readKind : wm_calV t_X7_readKind 1 := ⟨⟨wd_524, wd_81, by decide +kernel, by decide +kernel, by decide +kernel⟩, wd_523, wd_8⟩
theorem dX7_readKind_0 : decode t_X7_readKind.2.1 0 = .ok (.aload_n 0, 1) := by decide +kernel
theorem dX7_readKind_1 : decode t_X7_readKind.2.1 1 = .ok (.getfield 21, 3) := by decide +kernel
theorem gX7_readKind_1 : wm_gf t_X7_readKind 1 7 0 := ⟨_, _, _, 21, rfl, by decide, wd_168, dX7_readKind_1⟩
theorem dX7_readKind_4 : decode t_X7_readKind.2.1 4 = .ok (.aload_n 0, 1) := by decide +kernel
theorem dX7_readKind_5 : decode t_X7_readKind.2.1 5 = .ok (.getfield 9, 3) := by decide +kernel
theorem gX7_readKind_5 : wm_gf t_X7_readKind 5 7 2 := ⟨_, _, _, 9, rfl, by decide, wd_170, dX7_readKind_5⟩
theorem dX7_readKind_8 : decode t_X7_readKind.2.1 8 = .ok (.aload_n 0, 1) := by decide +kernel
theorem dX7_readKind_9 : decode t_X7_readKind.2.1 9 = .ok (.getfield 15, 3) := by decide +kernel
theorem gX7_readKind_9 : wm_gf t_X7_readKind 9 7 3 := ⟨_, _, _, 15, rfl, by decide, wd_171, dX7_readKind_9⟩
theorem dX7_readKind_12 : decode t_X7_readKind.2.1 12 = .ok (.invokevirtual 74, 3) := by decide +kernel
theorem wd_508 : Cond.methodLink RX7 74 yX5_get ∈ lw_gd := List.mem_filter.mpr ⟨List.mem_of_getElem? (i := 508) (by decide +kernel), by decide +kernel⟩
theorem iX7_readKind_12 : wm_iv t_X7_readKind t_X5_get 12 := ⟨74, wd_508, dX7_readKind_12⟩
theorem dX7_readKind_15 : decode t_X7_readKind.2.1 15 = .ok (.invokestatic 78, 3) := by decide +kernel
theorem wd_525 : Cond.methodLink RX7 78 yX7_kindOf ∈ lw_gd := List.mem_filter.mpr ⟨List.mem_of_getElem? (i := 525) (by decide +kernel), by decide +kernel⟩
theorem iX7_readKind_15 : wm_is t_X7_readKind t_X7_kindOf 15 := ⟨78, wd_525, dX7_readKind_15⟩
theorem dX7_readKind_18 : decode t_X7_readKind.2.1 18 = .ok (.istore_n 2, 1) := by decide +kernel
theorem dX7_readKind_19 : decode t_X7_readKind.2.1 19 = .ok (.iload_n 2, 1) := by decide +kernel
theorem dX7_readKind_20 : decode t_X7_readKind.2.1 20 = .ok (.bipush (-9), 2) := by decide +kernel
theorem dX7_readKind_22 : decode t_X7_readKind.2.1 22 = .ok (.if_icmp .ne 5, 3) := by decide +kernel
theorem dX7_readKind_25 : decode t_X7_readKind.2.1 25 = .ok (.iconst 0, 1) := by decide +kernel
theorem dX7_readKind_26 : decode t_X7_readKind.2.1 26 = .ok (.ireturn, 1) := by decide +kernel
theorem dX7_readKind_27 : decode t_X7_readKind.2.1 27 = .ok (.aload_n 0, 1) := by decide +kernel
theorem dX7_readKind_28 : decode t_X7_readKind.2.1 28 = .ok (.getfield 25, 3) := by decide +kernel
theorem gX7_readKind_28 : wm_gf t_X7_readKind 28 7 1 := ⟨_, _, _, 25, rfl, by decide, wd_169, dX7_readKind_28⟩
theorem dX7_readKind_31 : decode t_X7_readKind.2.1 31 = .ok (.getfield 81, 3) := by decide +kernel
theorem wd_135 : Cond.fieldLink RX7 81 "TurnedStones$Stones" "kinds" "[I" ∈ lw_gd := List.mem_filter.mpr ⟨List.mem_of_getElem? (i := 135) (by decide +kernel), by decide +kernel⟩
theorem gX7_readKind_31 : wm_gf t_X7_readKind 31 4 2 := ⟨_, _, _, 81, rfl, by decide, wd_135, dX7_readKind_31⟩
theorem dX7_readKind_34 : decode t_X7_readKind.2.1 34 = .ok (.iload_n 1, 1) := by decide +kernel
theorem dX7_readKind_35 : decode t_X7_readKind.2.1 35 = .ok (.iload_n 2, 1) := by decide +kernel
theorem dX7_readKind_36 : decode t_X7_readKind.2.1 36 = .ok (.iastore, 1) := by decide +kernel
theorem dX7_readKind_37 : decode t_X7_readKind.2.1 37 = .ok (.aload_n 0, 1) := by decide +kernel
theorem dX7_readKind_38 : decode t_X7_readKind.2.1 38 = .ok (.dup, 1) := by decide +kernel
theorem dX7_readKind_39 : decode t_X7_readKind.2.1 39 = .ok (.getfield 15, 3) := by decide +kernel
theorem gX7_readKind_39 : wm_gf t_X7_readKind 39 7 3 := ⟨_, _, _, 15, rfl, by decide, wd_171, dX7_readKind_39⟩
theorem dX7_readKind_42 : decode t_X7_readKind.2.1 42 = .ok (.iconst 1, 1) := by decide +kernel
theorem dX7_readKind_43 : decode t_X7_readKind.2.1 43 = .ok (.iadd, 1) := by decide +kernel
theorem dX7_readKind_44 : decode t_X7_readKind.2.1 44 = .ok (.putfield 15, 3) := by decide +kernel
theorem gX7_readKind_44 : wm_pf t_X7_readKind 44 7 3 .int := ⟨_, _, _, 15, rfl, by decide, wd_171, dX7_readKind_44, rfl, by decide +kernel⟩
theorem dX7_readKind_47 : decode t_X7_readKind.2.1 47 = .ok (.iconst 1, 1) := by decide +kernel
theorem dX7_readKind_48 : decode t_X7_readKind.2.1 48 = .ok (.ireturn, 1) := by decide +kernel
theorem wd_531 : Cond.code yX7_readWords cX7_readWords 3 (some .boolean) ∈ lw_gd := List.mem_filter.mpr ⟨List.mem_of_getElem? (i := 531) (by decide +kernel), by decide +kernel⟩
theorem wd_530 : Cond.instanceMethod yX7_readWords ∈ lw_gd := List.mem_filter.mpr ⟨List.mem_of_getElem? (i := 530) (by decide +kernel), by decide +kernel⟩
theorem wd_9 : Cond.selects RX7 yX7_readWords yX7_readWords ∈ lw_gd := List.mem_filter.mpr ⟨List.mem_of_getElem? (i := 9) (by decide +kernel), by decide +kernel⟩
theorem vX7_readWords : wm_calV t_X7_readWords 1 := ⟨⟨wd_531, wd_81, by decide +kernel, by decide +kernel, by decide +kernel⟩, wd_530, wd_9⟩
theorem dX7_readWords_0 : decode t_X7_readWords.2.1 0 = .ok (.iconst 0, 1) := by decide +kernel
theorem dX7_readWords_1 : decode t_X7_readWords.2.1 1 = .ok (.istore_n 2, 1) := by decide +kernel
theorem dX7_readWords_2 : decode t_X7_readWords.2.1 2 = .ok (.iload_n 2, 1) := by decide +kernel
theorem dX7_readWords_3 : decode t_X7_readWords.2.1 3 = .ok (.iconst 4, 1) := by decide +kernel
theorem dX7_readWords_4 : decode t_X7_readWords.2.1 4 = .ok (.if_icmp .ge 39, 3) := by decide +kernel
theorem dX7_readWords_7 : decode t_X7_readWords.2.1 7 = .ok (.aload_n 0, 1) := by decide +kernel
theorem dX7_readWords_8 : decode t_X7_readWords.2.1 8 = .ok (.bipush 97, 2) := by decide +kernel
theorem dX7_readWords_10 : decode t_X7_readWords.2.1 10 = .ok (.bipush 104, 2) := by decide +kernel
theorem dX7_readWords_12 : decode t_X7_readWords.2.1 12 = .ok (.invokevirtual 42, 3) := by decide +kernel
theorem iX7_readWords_12 : wm_iv t_X7_readWords t_X7_readSign 12 := ⟨42, wd_509, dX7_readWords_12⟩
theorem dX7_readWords_15 : decode t_X7_readWords.2.1 15 = .ok (.ifCond .ne 5, 3) := by decide +kernel
theorem dX7_readWords_18 : decode t_X7_readWords.2.1 18 = .ok (.iconst 0, 1) := by decide +kernel
theorem dX7_readWords_19 : decode t_X7_readWords.2.1 19 = .ok (.ireturn, 1) := by decide +kernel
theorem dX7_readWords_20 : decode t_X7_readWords.2.1 20 = .ok (.aload_n 0, 1) := by decide +kernel
theorem dX7_readWords_21 : decode t_X7_readWords.2.1 21 = .ok (.getfield 25, 3) := by decide +kernel
theorem gX7_readWords_21 : wm_gf t_X7_readWords 21 7 1 := ⟨_, _, _, 25, rfl, by decide, wd_169, dX7_readWords_21⟩
theorem dX7_readWords_24 : decode t_X7_readWords.2.1 24 = .ok (.getfield 85, 3) := by decide +kernel
theorem wd_139 : Cond.fieldLink RX7 85 "TurnedStones$Stones" "words" "[I" ∈ lw_gd := List.mem_filter.mpr ⟨List.mem_of_getElem? (i := 139) (by decide +kernel), by decide +kernel⟩
theorem gX7_readWords_24 : wm_gf t_X7_readWords 24 4 3 := ⟨_, _, _, 85, rfl, by decide, wd_139, dX7_readWords_24⟩
theorem dX7_readWords_27 : decode t_X7_readWords.2.1 27 = .ok (.iconst 4, 1) := by decide +kernel
theorem dX7_readWords_28 : decode t_X7_readWords.2.1 28 = .ok (.iload_n 1, 1) := by decide +kernel
theorem dX7_readWords_29 : decode t_X7_readWords.2.1 29 = .ok (.imul, 1) := by decide +kernel
theorem dX7_readWords_30 : decode t_X7_readWords.2.1 30 = .ok (.iload_n 2, 1) := by decide +kernel
theorem dX7_readWords_31 : decode t_X7_readWords.2.1 31 = .ok (.iadd, 1) := by decide +kernel
theorem dX7_readWords_32 : decode t_X7_readWords.2.1 32 = .ok (.aload_n 0, 1) := by decide +kernel
theorem dX7_readWords_33 : decode t_X7_readWords.2.1 33 = .ok (.getfield 18, 3) := by decide +kernel
theorem gX7_readWords_33 : wm_gf t_X7_readWords 33 7 4 := ⟨_, _, _, 18, rfl, by decide, wd_172, dX7_readWords_33⟩
theorem dX7_readWords_36 : decode t_X7_readWords.2.1 36 = .ok (.iastore, 1) := by decide +kernel
theorem dX7_readWords_37 : decode t_X7_readWords.2.1 37 = .ok (.iinc 2 1, 3) := by decide +kernel
theorem dX7_readWords_40 : decode t_X7_readWords.2.1 40 = .ok (.goto (-38), 3) := by decide +kernel
theorem dX7_readWords_43 : decode t_X7_readWords.2.1 43 = .ok (.iconst 1, 1) := by decide +kernel
theorem dX7_readWords_44 : decode t_X7_readWords.2.1 44 = .ok (.ireturn, 1) := by decide +kernel
theorem wd_535 : Cond.code yX7_readSide cX7_readSide 2 (some .boolean) ∈ lw_gd := List.mem_filter.mpr ⟨List.mem_of_getElem? (i := 535) (by decide +kernel), by decide +kernel⟩
theorem wd_534 : Cond.instanceMethod yX7_readSide ∈ lw_gd := List.mem_filter.mpr ⟨List.mem_of_getElem? (i := 534) (by decide +kernel), by decide +kernel⟩
theorem wd_10 : Cond.selects RX7 yX7_readSide yX7_readSide ∈ lw_gd := List.mem_filter.mpr ⟨List.mem_of_getElem? (i := 10) (by decide +kernel), by decide +kernel⟩
theorem vX7_readSide : wm_calV t_X7_readSide 1 := ⟨⟨wd_535, wd_81, by decide +kernel, by decide +kernel, by decide +kernel⟩, wd_534, wd_10⟩
theorem dX7_readSide_0 : decode t_X7_readSide.2.1 0 = .ok (.aload_n 0, 1) := by decide +kernel
theorem dX7_readSide_1 : decode t_X7_readSide.2.1 1 = .ok (.getfield 25, 3) := by decide +kernel
theorem gX7_readSide_1 : wm_gf t_X7_readSide 1 7 1 := ⟨_, _, _, 25, rfl, by decide, wd_169, dX7_readSide_1⟩
theorem dX7_readSide_4 : decode t_X7_readSide.2.1 4 = .ok (.getfield 88, 3) := by decide +kernel
theorem wd_143 : Cond.fieldLink RX7 88 "TurnedStones$Stones" "sides" "[I" ∈ lw_gd := List.mem_filter.mpr ⟨List.mem_of_getElem? (i := 143) (by decide +kernel), by decide +kernel⟩
theorem gX7_readSide_4 : wm_gf t_X7_readSide 4 4 4 := ⟨_, _, _, 88, rfl, by decide, wd_143, dX7_readSide_4⟩
theorem dX7_readSide_7 : decode t_X7_readSide.2.1 7 = .ok (.iload_n 1, 1) := by decide +kernel
theorem dX7_readSide_8 : decode t_X7_readSide.2.1 8 = .ok (.bipush (-9), 2) := by decide +kernel
theorem dX7_readSide_10 : decode t_X7_readSide.2.1 10 = .ok (.iastore, 1) := by decide +kernel
theorem dX7_readSide_11 : decode t_X7_readSide.2.1 11 = .ok (.aload_n 0, 1) := by decide +kernel
theorem dX7_readSide_12 : decode t_X7_readSide.2.1 12 = .ok (.getfield 25, 3) := by decide +kernel
theorem gX7_readSide_12 : wm_gf t_X7_readSide 12 7 1 := ⟨_, _, _, 25, rfl, by decide, wd_169, dX7_readSide_12⟩
theorem dX7_readSide_15 : decode t_X7_readSide.2.1 15 = .ok (.iload_n 1, 1) := by decide +kernel
theorem dX7_readSide_16 : decode t_X7_readSide.2.1 16 = .ok (.iconst 1, 1) := by decide +kernel
theorem dX7_readSide_17 : decode t_X7_readSide.2.1 17 = .ok (.invokevirtual 91, 3) := by decide +kernel
theorem wd_536 : Cond.methodLink RX7 91 yX4_isOf ∈ lw_gd := List.mem_filter.mpr ⟨List.mem_of_getElem? (i := 536) (by decide +kernel), by decide +kernel⟩
theorem iX7_readSide_17 : wm_iv t_X7_readSide t_X4_isOf 17 := ⟨91, wd_536, dX7_readSide_17⟩
theorem dX7_readSide_20 : decode t_X7_readSide.2.1 20 = .ok (.ifCond .ne 5, 3) := by decide +kernel
theorem dX7_readSide_23 : decode t_X7_readSide.2.1 23 = .ok (.iconst 1, 1) := by decide +kernel
theorem dX7_readSide_24 : decode t_X7_readSide.2.1 24 = .ok (.ireturn, 1) := by decide +kernel
theorem dX7_readSide_25 : decode t_X7_readSide.2.1 25 = .ok (.aload_n 0, 1) := by decide +kernel
theorem dX7_readSide_26 : decode t_X7_readSide.2.1 26 = .ok (.bipush 48, 2) := by decide +kernel
theorem dX7_readSide_28 : decode t_X7_readSide.2.1 28 = .ok (.bipush 51, 2) := by decide +kernel
theorem dX7_readSide_30 : decode t_X7_readSide.2.1 30 = .ok (.invokevirtual 42, 3) := by decide +kernel
theorem iX7_readSide_30 : wm_iv t_X7_readSide t_X7_readSign 30 := ⟨42, wd_509, dX7_readSide_30⟩
theorem dX7_readSide_33 : decode t_X7_readSide.2.1 33 = .ok (.ifCond .ne 5, 3) := by decide +kernel
theorem dX7_readSide_36 : decode t_X7_readSide.2.1 36 = .ok (.iconst 0, 1) := by decide +kernel
theorem dX7_readSide_37 : decode t_X7_readSide.2.1 37 = .ok (.ireturn, 1) := by decide +kernel
theorem dX7_readSide_38 : decode t_X7_readSide.2.1 38 = .ok (.aload_n 0, 1) := by decide +kernel
theorem dX7_readSide_39 : decode t_X7_readSide.2.1 39 = .ok (.getfield 25, 3) := by decide +kernel
theorem gX7_readSide_39 : wm_gf t_X7_readSide 39 7 1 := ⟨_, _, _, 25, rfl, by decide, wd_169, dX7_readSide_39⟩
theorem dX7_readSide_42 : decode t_X7_readSide.2.1 42 = .ok (.getfield 88, 3) := by decide +kernel
theorem gX7_readSide_42 : wm_gf t_X7_readSide 42 4 4 := ⟨_, _, _, 88, rfl, by decide, wd_143, dX7_readSide_42⟩
theorem dX7_readSide_45 : decode t_X7_readSide.2.1 45 = .ok (.iload_n 1, 1) := by decide +kernel
theorem dX7_readSide_46 : decode t_X7_readSide.2.1 46 = .ok (.aload_n 0, 1) := by decide +kernel
theorem dX7_readSide_47 : decode t_X7_readSide.2.1 47 = .ok (.getfield 18, 3) := by decide +kernel
theorem gX7_readSide_47 : wm_gf t_X7_readSide 47 7 4 := ⟨_, _, _, 18, rfl, by decide, wd_172, dX7_readSide_47⟩
theorem dX7_readSide_50 : decode t_X7_readSide.2.1 50 = .ok (.iastore, 1) := by decide +kernel
theorem dX7_readSide_51 : decode t_X7_readSide.2.1 51 = .ok (.aload_n 0, 1) := by decide +kernel
theorem dX7_readSide_52 : decode t_X7_readSide.2.1 52 = .ok (.getfield 25, 3) := by decide +kernel
theorem gX7_readSide_52 : wm_gf t_X7_readSide 52 7 1 := ⟨_, _, _, 25, rfl, by decide, wd_169, dX7_readSide_52⟩
theorem dX7_readSide_55 : decode t_X7_readSide.2.1 55 = .ok (.getfield 81, 3) := by decide +kernel
theorem gX7_readSide_55 : wm_gf t_X7_readSide 55 4 2 := ⟨_, _, _, 81, rfl, by decide, wd_135, dX7_readSide_55⟩
theorem dX7_readSide_58 : decode t_X7_readSide.2.1 58 = .ok (.iload_n 1, 1) := by decide +kernel
theorem dX7_readSide_59 : decode t_X7_readSide.2.1 59 = .ok (.iaload, 1) := by decide +kernel
theorem dX7_readSide_60 : decode t_X7_readSide.2.1 60 = .ok (.iconst 4, 1) := by decide +kernel
theorem dX7_readSide_61 : decode t_X7_readSide.2.1 61 = .ok (.if_icmp .ne 22, 3) := by decide +kernel
theorem dX7_readSide_64 : decode t_X7_readSide.2.1 64 = .ok (.aload_n 0, 1) := by decide +kernel
theorem dX7_readSide_65 : decode t_X7_readSide.2.1 65 = .ok (.getfield 25, 3) := by decide +kernel
theorem gX7_readSide_65 : wm_gf t_X7_readSide 65 7 1 := ⟨_, _, _, 25, rfl, by decide, wd_169, dX7_readSide_65⟩
theorem dX7_readSide_68 : decode t_X7_readSide.2.1 68 = .ok (.getfield 85, 3) := by decide +kernel
theorem gX7_readSide_68 : wm_gf t_X7_readSide 68 4 3 := ⟨_, _, _, 85, rfl, by decide, wd_139, dX7_readSide_68⟩
theorem dX7_readSide_71 : decode t_X7_readSide.2.1 71 = .ok (.iconst 4, 1) := by decide +kernel
theorem dX7_readSide_72 : decode t_X7_readSide.2.1 72 = .ok (.iload_n 1, 1) := by decide +kernel
theorem dX7_readSide_73 : decode t_X7_readSide.2.1 73 = .ok (.imul, 1) := by decide +kernel
theorem dX7_readSide_74 : decode t_X7_readSide.2.1 74 = .ok (.aload_n 0, 1) := by decide +kernel
theorem dX7_readSide_75 : decode t_X7_readSide.2.1 75 = .ok (.getfield 18, 3) := by decide +kernel
theorem gX7_readSide_75 : wm_gf t_X7_readSide 75 7 4 := ⟨_, _, _, 18, rfl, by decide, wd_172, dX7_readSide_75⟩
theorem dX7_readSide_78 : decode t_X7_readSide.2.1 78 = .ok (.iadd, 1) := by decide +kernel
theorem dX7_readSide_79 : decode t_X7_readSide.2.1 79 = .ok (.iconst (-1), 1) := by decide +kernel
theorem dX7_readSide_80 : decode t_X7_readSide.2.1 80 = .ok (.iastore, 1) := by decide +kernel
theorem dX7_readSide_81 : decode t_X7_readSide.2.1 81 = .ok (.iconst 1, 1) := by decide +kernel
theorem dX7_readSide_82 : decode t_X7_readSide.2.1 82 = .ok (.ireturn, 1) := by decide +kernel
theorem dX7_readSide_83 : decode t_X7_readSide.2.1 83 = .ok (.aload_n 0, 1) := by decide +kernel
theorem dX7_readSide_84 : decode t_X7_readSide.2.1 84 = .ok (.bipush 97, 2) := by decide +kernel
theorem dX7_readSide_86 : decode t_X7_readSide.2.1 86 = .ok (.bipush 104, 2) := by decide +kernel
theorem dX7_readSide_88 : decode t_X7_readSide.2.1 88 = .ok (.invokevirtual 42, 3) := by decide +kernel
theorem iX7_readSide_88 : wm_iv t_X7_readSide t_X7_readSign 88 := ⟨42, wd_509, dX7_readSide_88⟩
theorem dX7_readSide_91 : decode t_X7_readSide.2.1 91 = .ok (.ifCond .ne 5, 3) := by decide +kernel
theorem dX7_readSide_94 : decode t_X7_readSide.2.1 94 = .ok (.iconst 0, 1) := by decide +kernel
theorem dX7_readSide_95 : decode t_X7_readSide.2.1 95 = .ok (.ireturn, 1) := by decide +kernel
theorem dX7_readSide_96 : decode t_X7_readSide.2.1 96 = .ok (.aload_n 0, 1) := by decide +kernel
theorem dX7_readSide_97 : decode t_X7_readSide.2.1 97 = .ok (.getfield 25, 3) := by decide +kernel
theorem gX7_readSide_97 : wm_gf t_X7_readSide 97 7 1 := ⟨_, _, _, 25, rfl, by decide, wd_169, dX7_readSide_97⟩
theorem dX7_readSide_100 : decode t_X7_readSide.2.1 100 = .ok (.getfield 94, 3) := by decide +kernel
theorem wd_147 : Cond.fieldLink RX7 94 "TurnedStones$Stones" "others" "[I" ∈ lw_gd := List.mem_filter.mpr ⟨List.mem_of_getElem? (i := 147) (by decide +kernel), by decide +kernel⟩
theorem gX7_readSide_100 : wm_gf t_X7_readSide 100 4 5 := ⟨_, _, _, 94, rfl, by decide, wd_147, dX7_readSide_100⟩
theorem dX7_readSide_103 : decode t_X7_readSide.2.1 103 = .ok (.iload_n 1, 1) := by decide +kernel
theorem dX7_readSide_104 : decode t_X7_readSide.2.1 104 = .ok (.aload_n 0, 1) := by decide +kernel
theorem dX7_readSide_105 : decode t_X7_readSide.2.1 105 = .ok (.getfield 18, 3) := by decide +kernel
theorem gX7_readSide_105 : wm_gf t_X7_readSide 105 7 4 := ⟨_, _, _, 18, rfl, by decide, wd_172, dX7_readSide_105⟩
theorem dX7_readSide_108 : decode t_X7_readSide.2.1 108 = .ok (.iastore, 1) := by decide +kernel
theorem dX7_readSide_109 : decode t_X7_readSide.2.1 109 = .ok (.iconst 1, 1) := by decide +kernel
theorem dX7_readSide_110 : decode t_X7_readSide.2.1 110 = .ok (.ireturn, 1) := by decide +kernel
theorem wd_527 : Cond.code yX7_kindOf cX7_kindOf 1 (some .int) ∈ lw_gd := List.mem_filter.mpr ⟨List.mem_of_getElem? (i := 527) (by decide +kernel), by decide +kernel⟩
theorem wd_526 : Cond.static yX7_kindOf ∈ lw_gd := List.mem_filter.mpr ⟨List.mem_of_getElem? (i := 526) (by decide +kernel), by decide +kernel⟩
theorem vX7_kindOf : wm_calS t_X7_kindOf 1 := ⟨⟨wd_527, wd_81, by decide +kernel, by decide +kernel, by decide +kernel⟩, wd_526⟩
theorem dX7_kindOf_0 : decode t_X7_kindOf.2.1 0 = .ok (.iload_n 0, 1) := by decide +kernel
theorem dX7_kindOf_1 : decode t_X7_kindOf.2.1 1 = .ok (.lookupswitch 71 #[(99, 67), (102, 63), (104, 65), (115, 59), (117, 69), (120, 61)], 59) := by decide +kernel
theorem dX7_kindOf_60 : decode t_X7_kindOf.2.1 60 = .ok (.iconst 0, 1) := by decide +kernel
theorem dX7_kindOf_61 : decode t_X7_kindOf.2.1 61 = .ok (.ireturn, 1) := by decide +kernel
theorem dX7_kindOf_62 : decode t_X7_kindOf.2.1 62 = .ok (.iconst 1, 1) := by decide +kernel
theorem dX7_kindOf_63 : decode t_X7_kindOf.2.1 63 = .ok (.ireturn, 1) := by decide +kernel
theorem dX7_kindOf_64 : decode t_X7_kindOf.2.1 64 = .ok (.iconst 2, 1) := by decide +kernel
theorem dX7_kindOf_65 : decode t_X7_kindOf.2.1 65 = .ok (.ireturn, 1) := by decide +kernel
theorem dX7_kindOf_66 : decode t_X7_kindOf.2.1 66 = .ok (.iconst 3, 1) := by decide +kernel
theorem dX7_kindOf_67 : decode t_X7_kindOf.2.1 67 = .ok (.ireturn, 1) := by decide +kernel
theorem dX7_kindOf_68 : decode t_X7_kindOf.2.1 68 = .ok (.iconst 4, 1) := by decide +kernel
theorem dX7_kindOf_69 : decode t_X7_kindOf.2.1 69 = .ok (.ireturn, 1) := by decide +kernel
theorem dX7_kindOf_70 : decode t_X7_kindOf.2.1 70 = .ok (.iconst 5, 1) := by decide +kernel
theorem dX7_kindOf_71 : decode t_X7_kindOf.2.1 71 = .ok (.ireturn, 1) := by decide +kernel
theorem dX7_kindOf_72 : decode t_X7_kindOf.2.1 72 = .ok (.bipush (-9), 2) := by decide +kernel
theorem dX7_kindOf_74 : decode t_X7_kindOf.2.1 74 = .ok (.ireturn, 1) := by decide +kernel
theorem wd_512 : Cond.code yX7_readSign cX7_readSign 4 (some .boolean) ∈ lw_gd := List.mem_filter.mpr ⟨List.mem_of_getElem? (i := 512) (by decide +kernel), by decide +kernel⟩
theorem wd_511 : Cond.instanceMethod yX7_readSign ∈ lw_gd := List.mem_filter.mpr ⟨List.mem_of_getElem? (i := 511) (by decide +kernel), by decide +kernel⟩
theorem wd_6 : Cond.selects RX7 yX7_readSign yX7_readSign ∈ lw_gd := List.mem_filter.mpr ⟨List.mem_of_getElem? (i := 6) (by decide +kernel), by decide +kernel⟩
theorem vX7_readSign : wm_calV t_X7_readSign 2 := ⟨⟨wd_512, wd_81, by decide +kernel, by decide +kernel, by decide +kernel⟩, wd_511, wd_6⟩
theorem dX7_readSign_0 : decode t_X7_readSign.2.1 0 = .ok (.aload_n 0, 1) := by decide +kernel
theorem dX7_readSign_1 : decode t_X7_readSign.2.1 1 = .ok (.getfield 21, 3) := by decide +kernel
theorem gX7_readSign_1 : wm_gf t_X7_readSign 1 7 0 := ⟨_, _, _, 21, rfl, by decide, wd_168, dX7_readSign_1⟩
theorem dX7_readSign_4 : decode t_X7_readSign.2.1 4 = .ok (.aload_n 0, 1) := by decide +kernel
theorem dX7_readSign_5 : decode t_X7_readSign.2.1 5 = .ok (.getfield 9, 3) := by decide +kernel
theorem gX7_readSign_5 : wm_gf t_X7_readSign 5 7 2 := ⟨_, _, _, 9, rfl, by decide, wd_170, dX7_readSign_5⟩
theorem dX7_readSign_8 : decode t_X7_readSign.2.1 8 = .ok (.aload_n 0, 1) := by decide +kernel
theorem dX7_readSign_9 : decode t_X7_readSign.2.1 9 = .ok (.getfield 15, 3) := by decide +kernel
theorem gX7_readSign_9 : wm_gf t_X7_readSign 9 7 3 := ⟨_, _, _, 15, rfl, by decide, wd_171, dX7_readSign_9⟩
theorem dX7_readSign_12 : decode t_X7_readSign.2.1 12 = .ok (.invokevirtual 74, 3) := by decide +kernel
theorem iX7_readSign_12 : wm_iv t_X7_readSign t_X5_get 12 := ⟨74, wd_508, dX7_readSign_12⟩
theorem dX7_readSign_15 : decode t_X7_readSign.2.1 15 = .ok (.istore_n 3, 1) := by decide +kernel
theorem dX7_readSign_16 : decode t_X7_readSign.2.1 16 = .ok (.iload_n 3, 1) := by decide +kernel
theorem dX7_readSign_17 : decode t_X7_readSign.2.1 17 = .ok (.iload_n 1, 1) := by decide +kernel
theorem dX7_readSign_18 : decode t_X7_readSign.2.1 18 = .ok (.if_icmp .lt 8, 3) := by decide +kernel
theorem dX7_readSign_21 : decode t_X7_readSign.2.1 21 = .ok (.iload_n 3, 1) := by decide +kernel
theorem dX7_readSign_22 : decode t_X7_readSign.2.1 22 = .ok (.iload_n 2, 1) := by decide +kernel
theorem dX7_readSign_23 : decode t_X7_readSign.2.1 23 = .ok (.if_icmp .le 5, 3) := by decide +kernel
theorem dX7_readSign_26 : decode t_X7_readSign.2.1 26 = .ok (.iconst 0, 1) := by decide +kernel
theorem dX7_readSign_27 : decode t_X7_readSign.2.1 27 = .ok (.ireturn, 1) := by decide +kernel
theorem dX7_readSign_28 : decode t_X7_readSign.2.1 28 = .ok (.aload_n 0, 1) := by decide +kernel
theorem dX7_readSign_29 : decode t_X7_readSign.2.1 29 = .ok (.iload_n 3, 1) := by decide +kernel
theorem dX7_readSign_30 : decode t_X7_readSign.2.1 30 = .ok (.iload_n 1, 1) := by decide +kernel
theorem dX7_readSign_31 : decode t_X7_readSign.2.1 31 = .ok (.isub, 1) := by decide +kernel
theorem dX7_readSign_32 : decode t_X7_readSign.2.1 32 = .ok (.putfield 18, 3) := by decide +kernel
theorem gX7_readSign_32 : wm_pf t_X7_readSign 32 7 4 .int := ⟨_, _, _, 18, rfl, by decide, wd_172, dX7_readSign_32, rfl, by decide +kernel⟩
theorem dX7_readSign_35 : decode t_X7_readSign.2.1 35 = .ok (.aload_n 0, 1) := by decide +kernel
theorem dX7_readSign_36 : decode t_X7_readSign.2.1 36 = .ok (.dup, 1) := by decide +kernel
theorem dX7_readSign_37 : decode t_X7_readSign.2.1 37 = .ok (.getfield 15, 3) := by decide +kernel
theorem gX7_readSign_37 : wm_gf t_X7_readSign 37 7 3 := ⟨_, _, _, 15, rfl, by decide, wd_171, dX7_readSign_37⟩
theorem dX7_readSign_40 : decode t_X7_readSign.2.1 40 = .ok (.iconst 1, 1) := by decide +kernel
theorem dX7_readSign_41 : decode t_X7_readSign.2.1 41 = .ok (.iadd, 1) := by decide +kernel
theorem dX7_readSign_42 : decode t_X7_readSign.2.1 42 = .ok (.putfield 15, 3) := by decide +kernel
theorem gX7_readSign_42 : wm_pf t_X7_readSign 42 7 3 .int := ⟨_, _, _, 15, rfl, by decide, wd_171, dX7_readSign_42, rfl, by decide +kernel⟩
theorem dX7_readSign_45 : decode t_X7_readSign.2.1 45 = .ok (.iconst 1, 1) := by decide +kernel
theorem dX7_readSign_46 : decode t_X7_readSign.2.1 46 = .ok (.ireturn, 1) := by decide +kernel
theorem wd_506 : Cond.code yX7_skipBlanks cX7_skipBlanks 1 (none) ∈ lw_gd := List.mem_filter.mpr ⟨List.mem_of_getElem? (i := 506) (by decide +kernel), by decide +kernel⟩
theorem wd_505 : Cond.instanceMethod yX7_skipBlanks ∈ lw_gd := List.mem_filter.mpr ⟨List.mem_of_getElem? (i := 505) (by decide +kernel), by decide +kernel⟩
theorem wd_5 : Cond.selects RX7 yX7_skipBlanks yX7_skipBlanks ∈ lw_gd := List.mem_filter.mpr ⟨List.mem_of_getElem? (i := 5) (by decide +kernel), by decide +kernel⟩
theorem vX7_skipBlanks : wm_calV t_X7_skipBlanks 0 := ⟨⟨wd_506, wd_81, by decide +kernel, by decide +kernel, by decide +kernel⟩, wd_505, wd_5⟩
theorem dX7_skipBlanks_0 : decode t_X7_skipBlanks.2.1 0 = .ok (.aload_n 0, 1) := by decide +kernel
theorem dX7_skipBlanks_1 : decode t_X7_skipBlanks.2.1 1 = .ok (.getfield 15, 3) := by decide +kernel
theorem gX7_skipBlanks_1 : wm_gf t_X7_skipBlanks 1 7 3 := ⟨_, _, _, 15, rfl, by decide, wd_171, dX7_skipBlanks_1⟩
theorem dX7_skipBlanks_4 : decode t_X7_skipBlanks.2.1 4 = .ok (.aload_n 0, 1) := by decide +kernel
theorem dX7_skipBlanks_5 : decode t_X7_skipBlanks.2.1 5 = .ok (.getfield 21, 3) := by decide +kernel
theorem gX7_skipBlanks_5 : wm_gf t_X7_skipBlanks 5 7 0 := ⟨_, _, _, 21, rfl, by decide, wd_168, dX7_skipBlanks_5⟩
theorem dX7_skipBlanks_8 : decode t_X7_skipBlanks.2.1 8 = .ok (.aload_n 0, 1) := by decide +kernel
theorem dX7_skipBlanks_9 : decode t_X7_skipBlanks.2.1 9 = .ok (.getfield 9, 3) := by decide +kernel
theorem gX7_skipBlanks_9 : wm_gf t_X7_skipBlanks 9 7 2 := ⟨_, _, _, 9, rfl, by decide, wd_170, dX7_skipBlanks_9⟩
theorem dX7_skipBlanks_12 : decode t_X7_skipBlanks.2.1 12 = .ok (.invokevirtual 68, 3) := by decide +kernel
theorem iX7_skipBlanks_12 : wm_iv t_X7_skipBlanks t_X5_size 12 := ⟨68, wd_507, dX7_skipBlanks_12⟩
theorem dX7_skipBlanks_15 : decode t_X7_skipBlanks.2.1 15 = .ok (.if_icmp .ge 36, 3) := by decide +kernel
theorem dX7_skipBlanks_18 : decode t_X7_skipBlanks.2.1 18 = .ok (.aload_n 0, 1) := by decide +kernel
theorem dX7_skipBlanks_19 : decode t_X7_skipBlanks.2.1 19 = .ok (.getfield 21, 3) := by decide +kernel
theorem gX7_skipBlanks_19 : wm_gf t_X7_skipBlanks 19 7 0 := ⟨_, _, _, 21, rfl, by decide, wd_168, dX7_skipBlanks_19⟩
theorem dX7_skipBlanks_22 : decode t_X7_skipBlanks.2.1 22 = .ok (.aload_n 0, 1) := by decide +kernel
theorem dX7_skipBlanks_23 : decode t_X7_skipBlanks.2.1 23 = .ok (.getfield 9, 3) := by decide +kernel
theorem gX7_skipBlanks_23 : wm_gf t_X7_skipBlanks 23 7 2 := ⟨_, _, _, 9, rfl, by decide, wd_170, dX7_skipBlanks_23⟩
theorem dX7_skipBlanks_26 : decode t_X7_skipBlanks.2.1 26 = .ok (.aload_n 0, 1) := by decide +kernel
theorem dX7_skipBlanks_27 : decode t_X7_skipBlanks.2.1 27 = .ok (.getfield 15, 3) := by decide +kernel
theorem gX7_skipBlanks_27 : wm_gf t_X7_skipBlanks 27 7 3 := ⟨_, _, _, 15, rfl, by decide, wd_171, dX7_skipBlanks_27⟩
theorem dX7_skipBlanks_30 : decode t_X7_skipBlanks.2.1 30 = .ok (.invokevirtual 74, 3) := by decide +kernel
theorem iX7_skipBlanks_30 : wm_iv t_X7_skipBlanks t_X5_get 30 := ⟨74, wd_508, dX7_skipBlanks_30⟩
theorem dX7_skipBlanks_33 : decode t_X7_skipBlanks.2.1 33 = .ok (.bipush 32, 2) := by decide +kernel
theorem dX7_skipBlanks_35 : decode t_X7_skipBlanks.2.1 35 = .ok (.if_icmp .ne 16, 3) := by decide +kernel
theorem dX7_skipBlanks_38 : decode t_X7_skipBlanks.2.1 38 = .ok (.aload_n 0, 1) := by decide +kernel
theorem dX7_skipBlanks_39 : decode t_X7_skipBlanks.2.1 39 = .ok (.dup, 1) := by decide +kernel
theorem dX7_skipBlanks_40 : decode t_X7_skipBlanks.2.1 40 = .ok (.getfield 15, 3) := by decide +kernel
theorem gX7_skipBlanks_40 : wm_gf t_X7_skipBlanks 40 7 3 := ⟨_, _, _, 15, rfl, by decide, wd_171, dX7_skipBlanks_40⟩
theorem dX7_skipBlanks_43 : decode t_X7_skipBlanks.2.1 43 = .ok (.iconst 1, 1) := by decide +kernel
theorem dX7_skipBlanks_44 : decode t_X7_skipBlanks.2.1 44 = .ok (.iadd, 1) := by decide +kernel
theorem dX7_skipBlanks_45 : decode t_X7_skipBlanks.2.1 45 = .ok (.putfield 15, 3) := by decide +kernel
theorem gX7_skipBlanks_45 : wm_pf t_X7_skipBlanks 45 7 3 .int := ⟨_, _, _, 15, rfl, by decide, wd_171, dX7_skipBlanks_45, rfl, by decide +kernel⟩
theorem dX7_skipBlanks_48 : decode t_X7_skipBlanks.2.1 48 = .ok (.goto (-48), 3) := by decide +kernel
theorem dX7_skipBlanks_51 : decode t_X7_skipBlanks.2.1 51 = .ok (.return_, 1) := by decide +kernel
