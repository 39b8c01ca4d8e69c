theorem wd_799 : Cond.code yX8_goalOf cX8_goalOf 3 (some (.object "TurnedStones$StateSet")) ∈ lw_gd := List.mem_filter.mpr ⟨List.mem_of_getElem? (i := 799) (by decide +kernel), by decide +kernel⟩
theorem wd_84 : Cond.initialized RX8 ∈ lw_gd := List.mem_filter.mpr ⟨List.mem_of_getElem? (i := 84) (by decide +kernel), by decide +kernel⟩
theorem wd_797 : Cond.instanceMethod yX8_goalOf ∈ lw_gd := List.mem_filter.mpr ⟨List.mem_of_getElem? (i := 797) (by decide +kernel), by decide +kernel⟩
theorem wd_798 : Cond.selects RX8 yX8_goalOf yX8_goalOf ∈ lw_gd := List.mem_filter.mpr ⟨List.mem_of_getElem? (i := 798) (by decide +kernel), by decide +kernel⟩
theorem vX8_goalOf : wm_calV t_X8_goalOf 1 := ⟨⟨wd_799, wd_84, by decide +kernel, by decide +kernel, by decide +kernel⟩, wd_797, wd_798⟩
theorem dX8_goalOf_0 : decode t_X8_goalOf.2.1 0 = .ok (.aload_n 0, 1) := by decide +kernel
theorem dX8_goalOf_1 : decode t_X8_goalOf.2.1 1 = .ok (.getfield 35, 3) := by decide +kernel
theorem wd_236 : Cond.fieldLink RX8 35 "TurnedStones$Wants" "stones" "LTurnedStones$Stones;" ∈ lw_gd := List.mem_filter.mpr ⟨List.mem_of_getElem? (i := 236) (by decide +kernel), by decide +kernel⟩
theorem gX8_goalOf_1 : wm_gf t_X8_goalOf 1 8 2 := ⟨_, _, _, 35, rfl, by decide, wd_236, dX8_goalOf_1⟩
theorem dX8_goalOf_4 : decode t_X8_goalOf.2.1 4 = .ok (.aload_n 0, 1) := by decide +kernel
theorem dX8_goalOf_5 : decode t_X8_goalOf.2.1 5 = .ok (.getfield 31, 3) := by decide +kernel
theorem wd_241 : Cond.fieldLink RX8 31 "TurnedStones$Wants" "quarterBits" "[I" ∈ lw_gd := List.mem_filter.mpr ⟨List.mem_of_getElem? (i := 241) (by decide +kernel), by decide +kernel⟩
theorem gX8_goalOf_5 : wm_gf t_X8_goalOf 5 8 7 := ⟨_, _, _, 31, rfl, by decide, wd_241, dX8_goalOf_5⟩
theorem dX8_goalOf_8 : decode t_X8_goalOf.2.1 8 = .ok (.invokevirtual 43, 3) := by decide +kernel
theorem wd_800 : Cond.methodLink RX8 43 yX4_quartersHad ∈ lw_gd := List.mem_filter.mpr ⟨List.mem_of_getElem? (i := 800) (by decide +kernel), by decide +kernel⟩
theorem iX8_goalOf_8 : wm_iv t_X8_goalOf t_X4_quartersHad 8 := ⟨43, wd_800, dX8_goalOf_8⟩
theorem dX8_goalOf_11 : decode t_X8_goalOf.2.1 11 = .ok (.aload_n 0, 1) := by decide +kernel
theorem dX8_goalOf_12 : decode t_X8_goalOf.2.1 12 = .ok (.getfield 21, 3) := by decide +kernel
theorem wd_238 : Cond.fieldLink RX8 21 "TurnedStones$Wants" "goal" "LTurnedStones$StateSet;" ∈ lw_gd := List.mem_filter.mpr ⟨List.mem_of_getElem? (i := 238) (by decide +kernel), by decide +kernel⟩
theorem gX8_goalOf_12 : wm_gf t_X8_goalOf 12 8 4 := ⟨_, _, _, 21, rfl, by decide, wd_238, dX8_goalOf_12⟩
theorem dX8_goalOf_15 : decode t_X8_goalOf.2.1 15 = .ok (.invokevirtual 49, 3) := by decide +kernel
theorem wd_801 : Cond.methodLink RX8 49 yX3_clear ∈ lw_gd := List.mem_filter.mpr ⟨List.mem_of_getElem? (i := 801) (by decide +kernel), by decide +kernel⟩
theorem iX8_goalOf_15 : wm_iv t_X8_goalOf t_X3_clear 15 := ⟨49, wd_801, dX8_goalOf_15⟩
theorem dX8_goalOf_18 : decode t_X8_goalOf.2.1 18 = .ok (.aload_n 0, 1) := by decide +kernel
theorem dX8_goalOf_19 : decode t_X8_goalOf.2.1 19 = .ok (.getfield 21, 3) := by decide +kernel
theorem gX8_goalOf_19 : wm_gf t_X8_goalOf 19 8 4 := ⟨_, _, _, 21, rfl, by decide, wd_238, dX8_goalOf_19⟩
theorem dX8_goalOf_22 : decode t_X8_goalOf.2.1 22 = .ok (.aload_n 0, 1) := by decide +kernel
theorem dX8_goalOf_23 : decode t_X8_goalOf.2.1 23 = .ok (.getfield 31, 3) := by decide +kernel
theorem gX8_goalOf_23 : wm_gf t_X8_goalOf 23 8 7 := ⟨_, _, _, 31, rfl, by decide, wd_241, dX8_goalOf_23⟩
theorem dX8_goalOf_26 : decode t_X8_goalOf.2.1 26 = .ok (.invokevirtual 52, 3) := by decide +kernel
theorem wd_802 : Cond.methodLink RX8 52 yX3_joinProduct ∈ lw_gd := List.mem_filter.mpr ⟨List.mem_of_getElem? (i := 802) (by decide +kernel), by decide +kernel⟩
theorem iX8_goalOf_26 : wm_iv t_X8_goalOf t_X3_joinProduct 26 := ⟨52, wd_802, dX8_goalOf_26⟩
theorem dX8_goalOf_29 : decode t_X8_goalOf.2.1 29 = .ok (.iconst 0, 1) := by decide +kernel
theorem dX8_goalOf_30 : decode t_X8_goalOf.2.1 30 = .ok (.istore_n 2, 1) := by decide +kernel
theorem dX8_goalOf_31 : decode t_X8_goalOf.2.1 31 = .ok (.iload_n 2, 1) := by decide +kernel
theorem dX8_goalOf_32 : decode t_X8_goalOf.2.1 32 = .ok (.iconst 4, 1) := by decide +kernel
theorem dX8_goalOf_33 : decode t_X8_goalOf.2.1 33 = .ok (.if_icmp .ge 34, 3) := by decide +kernel
theorem dX8_goalOf_36 : decode t_X8_goalOf.2.1 36 = .ok (.iload_n 1, 1) := by decide +kernel
theorem dX8_goalOf_37 : decode t_X8_goalOf.2.1 37 = .ok (.iload_n 2, 1) := by decide +kernel
theorem dX8_goalOf_38 : decode t_X8_goalOf.2.1 38 = .ok (.ishr, 1) := by decide +kernel
theorem dX8_goalOf_39 : decode t_X8_goalOf.2.1 39 = .ok (.iconst 1, 1) := by decide +kernel
theorem dX8_goalOf_40 : decode t_X8_goalOf.2.1 40 = .ok (.iand, 1) := by decide +kernel
theorem dX8_goalOf_41 : decode t_X8_goalOf.2.1 41 = .ok (.iconst 1, 1) := by decide +kernel
theorem dX8_goalOf_42 : decode t_X8_goalOf.2.1 42 = .ok (.if_icmp .ne 19, 3) := by decide +kernel
theorem dX8_goalOf_45 : decode t_X8_goalOf.2.1 45 = .ok (.aload_n 0, 1) := by decide +kernel
theorem dX8_goalOf_46 : decode t_X8_goalOf.2.1 46 = .ok (.getfield 21, 3) := by decide +kernel
theorem gX8_goalOf_46 : wm_gf t_X8_goalOf 46 8 4 := ⟨_, _, _, 21, rfl, by decide, wd_238, dX8_goalOf_46⟩
theorem dX8_goalOf_49 : decode t_X8_goalOf.2.1 49 = .ok (.aload_n 0, 1) := by decide +kernel
theorem dX8_goalOf_50 : decode t_X8_goalOf.2.1 50 = .ok (.getfield 39, 3) := by decide +kernel
theorem wd_237 : Cond.fieldLink RX8 39 "TurnedStones$Wants" "book" "LTurnedStones$LawBook;" ∈ lw_gd := List.mem_filter.mpr ⟨List.mem_of_getElem? (i := 237) (by decide +kernel), by decide +kernel⟩
theorem gX8_goalOf_50 : wm_gf t_X8_goalOf 50 8 3 := ⟨_, _, _, 39, rfl, by decide, wd_237, dX8_goalOf_50⟩
theorem dX8_goalOf_53 : decode t_X8_goalOf.2.1 53 = .ok (.getfield 55, 3) := by decide +kernel
theorem wd_207 : Cond.fieldLink RX8 55 "TurnedStones$LawBook" "standing" "[LTurnedStones$StateSet;" ∈ lw_gd := List.mem_filter.mpr ⟨List.mem_of_getElem? (i := 207) (by decide +kernel), by decide +kernel⟩
theorem gX8_goalOf_53 : wm_gf t_X8_goalOf 53 0 1 := ⟨_, _, _, 55, rfl, by decide, wd_207, dX8_goalOf_53⟩
theorem dX8_goalOf_56 : decode t_X8_goalOf.2.1 56 = .ok (.iload_n 2, 1) := by decide +kernel
theorem dX8_goalOf_57 : decode t_X8_goalOf.2.1 57 = .ok (.aaload, 1) := by decide +kernel
theorem dX8_goalOf_58 : decode t_X8_goalOf.2.1 58 = .ok (.invokevirtual 61, 3) := by decide +kernel
theorem wd_803 : Cond.methodLink RX8 61 yX3_meet ∈ lw_gd := List.mem_filter.mpr ⟨List.mem_of_getElem? (i := 803) (by decide +kernel), by decide +kernel⟩
theorem iX8_goalOf_58 : wm_iv t_X8_goalOf t_X3_meet 58 := ⟨61, wd_803, dX8_goalOf_58⟩
theorem dX8_goalOf_61 : decode t_X8_goalOf.2.1 61 = .ok (.iinc 2 1, 3) := by decide +kernel
theorem dX8_goalOf_64 : decode t_X8_goalOf.2.1 64 = .ok (.goto (-33), 3) := by decide +kernel
theorem dX8_goalOf_67 : decode t_X8_goalOf.2.1 67 = .ok (.aload_n 0, 1) := by decide +kernel
theorem dX8_goalOf_68 : decode t_X8_goalOf.2.1 68 = .ok (.getfield 21, 3) := by decide +kernel
theorem gX8_goalOf_68 : wm_gf t_X8_goalOf 68 8 4 := ⟨_, _, _, 21, rfl, by decide, wd_238, dX8_goalOf_68⟩
theorem dX8_goalOf_71 : decode t_X8_goalOf.2.1 71 = .ok (.areturn, 1) := by decide +kernel
theorem wd_795 : Cond.code yX8_leastYears cX8_leastYears 6 (some .int) ∈ lw_gd := List.mem_filter.mpr ⟨List.mem_of_getElem? (i := 795) (by decide +kernel), by decide +kernel⟩
theorem wd_793 : Cond.instanceMethod yX8_leastYears ∈ lw_gd := List.mem_filter.mpr ⟨List.mem_of_getElem? (i := 793) (by decide +kernel), by decide +kernel⟩
theorem wd_794 : Cond.selects RX8 yX8_leastYears yX8_leastYears ∈ lw_gd := List.mem_filter.mpr ⟨List.mem_of_getElem? (i := 794) (by decide +kernel), by decide +kernel⟩
theorem vX8_leastYears : wm_calV t_X8_leastYears 2 := ⟨⟨wd_795, wd_84, by decide +kernel, by decide +kernel, by decide +kernel⟩, wd_793, wd_794⟩
theorem dX8_leastYears_0 : decode t_X8_leastYears.2.1 0 = .ok (.aload_n 0, 1) := by decide +kernel
theorem dX8_leastYears_1 : decode t_X8_leastYears.2.1 1 = .ok (.iload_n 2, 1) := by decide +kernel
theorem dX8_leastYears_2 : decode t_X8_leastYears.2.1 2 = .ok (.invokevirtual 65, 3) := by decide +kernel
theorem wd_796 : Cond.methodLink RX8 65 yX8_goalOf ∈ lw_gd := List.mem_filter.mpr ⟨List.mem_of_getElem? (i := 796) (by decide +kernel), by decide +kernel⟩
theorem iX8_leastYears_2 : wm_iv t_X8_leastYears t_X8_goalOf 2 := ⟨65, wd_796, dX8_leastYears_2⟩
theorem dX8_leastYears_5 : decode t_X8_leastYears.2.1 5 = .ok (.invokevirtual 69, 3) := by decide +kernel
theorem wd_807 : Cond.methodLink RX8 69 yX3_isEmpty ∈ lw_gd := List.mem_filter.mpr ⟨List.mem_of_getElem? (i := 807) (by decide +kernel), by decide +kernel⟩
theorem iX8_leastYears_5 : wm_iv t_X8_leastYears t_X3_isEmpty 5 := ⟨69, wd_807, dX8_leastYears_5⟩
theorem dX8_leastYears_8 : decode t_X8_leastYears.2.1 8 = .ok (.ifCond .eq 6, 3) := by decide +kernel
theorem dX8_leastYears_11 : decode t_X8_leastYears.2.1 11 = .ok (.bipush (-9), 2) := by decide +kernel
theorem dX8_leastYears_13 : decode t_X8_leastYears.2.1 13 = .ok (.ireturn, 1) := by decide +kernel
theorem dX8_leastYears_14 : decode t_X8_leastYears.2.1 14 = .ok (.aload_n 0, 1) := by decide +kernel
theorem dX8_leastYears_15 : decode t_X8_leastYears.2.1 15 = .ok (.getfield 25, 3) := by decide +kernel
theorem wd_239 : Cond.fieldLink RX8 25 "TurnedStones$Wants" "near" "LTurnedStones$StateSet;" ∈ lw_gd := List.mem_filter.mpr ⟨List.mem_of_getElem? (i := 239) (by decide +kernel), by decide +kernel⟩
theorem gX8_leastYears_15 : wm_gf t_X8_leastYears 15 8 5 := ⟨_, _, _, 25, rfl, by decide, wd_239, dX8_leastYears_15⟩
theorem dX8_leastYears_18 : decode t_X8_leastYears.2.1 18 = .ok (.iload_n 1, 1) := by decide +kernel
theorem dX8_leastYears_19 : decode t_X8_leastYears.2.1 19 = .ok (.invokevirtual 73, 3) := by decide +kernel
theorem wd_811 : Cond.methodLink RX8 73 yX3_only ∈ lw_gd := List.mem_filter.mpr ⟨List.mem_of_getElem? (i := 811) (by decide +kernel), by decide +kernel⟩
theorem iX8_leastYears_19 : wm_iv t_X8_leastYears t_X3_only 19 := ⟨73, wd_811, dX8_leastYears_19⟩
theorem dX8_leastYears_22 : decode t_X8_leastYears.2.1 22 = .ok (.iconst 0, 1) := by decide +kernel
theorem dX8_leastYears_23 : decode t_X8_leastYears.2.1 23 = .ok (.istore_n 3, 1) := by decide +kernel
theorem dX8_leastYears_24 : decode t_X8_leastYears.2.1 24 = .ok (.iload_n 3, 1) := by decide +kernel
theorem dX8_leastYears_25 : decode t_X8_leastYears.2.1 25 = .ok (.aload_n 0, 1) := by decide +kernel
theorem dX8_leastYears_26 : decode t_X8_leastYears.2.1 26 = .ok (.getfield 35, 3) := by decide +kernel
theorem gX8_leastYears_26 : wm_gf t_X8_leastYears 26 8 2 := ⟨_, _, _, 35, rfl, by decide, wd_236, dX8_leastYears_26⟩
theorem dX8_leastYears_29 : decode t_X8_leastYears.2.1 29 = .ok (.invokevirtual 77, 3) := by decide +kernel
theorem wd_816 : Cond.methodLink RX8 77 yX4_mostYears ∈ lw_gd := List.mem_filter.mpr ⟨List.mem_of_getElem? (i := 816) (by decide +kernel), by decide +kernel⟩
theorem iX8_leastYears_29 : wm_iv t_X8_leastYears t_X4_mostYears 29 := ⟨77, wd_816, dX8_leastYears_29⟩
theorem dX8_leastYears_32 : decode t_X8_leastYears.2.1 32 = .ok (.if_icmp .gt 114, 3) := by decide +kernel
theorem dX8_leastYears_35 : decode t_X8_leastYears.2.1 35 = .ok (.aload_n 0, 1) := by decide +kernel
theorem dX8_leastYears_36 : decode t_X8_leastYears.2.1 36 = .ok (.getfield 25, 3) := by decide +kernel
theorem gX8_leastYears_36 : wm_gf t_X8_leastYears 36 8 5 := ⟨_, _, _, 25, rfl, by decide, wd_239, dX8_leastYears_36⟩
theorem dX8_leastYears_39 : decode t_X8_leastYears.2.1 39 = .ok (.aload_n 0, 1) := by decide +kernel
theorem dX8_leastYears_40 : decode t_X8_leastYears.2.1 40 = .ok (.getfield 21, 3) := by decide +kernel
theorem gX8_leastYears_40 : wm_gf t_X8_leastYears 40 8 4 := ⟨_, _, _, 21, rfl, by decide, wd_238, dX8_leastYears_40⟩
theorem dX8_leastYears_43 : decode t_X8_leastYears.2.1 43 = .ok (.invokevirtual 81, 3) := by decide +kernel
theorem wd_820 : Cond.methodLink RX8 81 yX3_leastWith ∈ lw_gd := List.mem_filter.mpr ⟨List.mem_of_getElem? (i := 820) (by decide +kernel), by decide +kernel⟩
theorem iX8_leastYears_43 : wm_iv t_X8_leastYears t_X3_leastWith 43 := ⟨81, wd_820, dX8_leastYears_43⟩
theorem dX8_leastYears_46 : decode t_X8_leastYears.2.1 46 = .ok (.istore 4, 2) := by decide +kernel
theorem dX8_leastYears_48 : decode t_X8_leastYears.2.1 48 = .ok (.iload 4, 2) := by decide +kernel
theorem dX8_leastYears_50 : decode t_X8_leastYears.2.1 50 = .ok (.bipush (-9), 2) := by decide +kernel
theorem dX8_leastYears_52 : decode t_X8_leastYears.2.1 52 = .ok (.if_icmp .eq 11, 3) := by decide +kernel
theorem dX8_leastYears_55 : decode t_X8_leastYears.2.1 55 = .ok (.aload_n 0, 1) := by decide +kernel
theorem dX8_leastYears_56 : decode t_X8_leastYears.2.1 56 = .ok (.iload 4, 2) := by decide +kernel
theorem dX8_leastYears_58 : decode t_X8_leastYears.2.1 58 = .ok (.putfield 9, 3) := by decide +kernel
theorem wd_232 : Cond.fieldLink RX8 9 "TurnedStones$Wants" "reached" "I" ∈ lw_gd := List.mem_filter.mpr ⟨List.mem_of_getElem? (i := 232) (by decide +kernel), by decide +kernel⟩
theorem gX8_leastYears_58 : wm_pf t_X8_leastYears 58 8 0 .int := ⟨_, _, _, 9, rfl, by decide, wd_232, dX8_leastYears_58, rfl, by decide +kernel⟩
theorem dX8_leastYears_61 : decode t_X8_leastYears.2.1 61 = .ok (.iload_n 3, 1) := by decide +kernel
theorem dX8_leastYears_62 : decode t_X8_leastYears.2.1 62 = .ok (.ireturn, 1) := by decide +kernel
theorem dX8_leastYears_63 : decode t_X8_leastYears.2.1 63 = .ok (.aload_n 0, 1) := by decide +kernel
theorem dX8_leastYears_64 : decode t_X8_leastYears.2.1 64 = .ok (.getfield 28, 3) := by decide +kernel
theorem wd_240 : Cond.fieldLink RX8 28 "TurnedStones$Wants" "next" "LTurnedStones$StateSet;" ∈ lw_gd := List.mem_filter.mpr ⟨List.mem_of_getElem? (i := 240) (by decide +kernel), by decide +kernel⟩
theorem gX8_leastYears_64 : wm_gf t_X8_leastYears 64 8 6 := ⟨_, _, _, 28, rfl, by decide, wd_240, dX8_leastYears_64⟩
theorem dX8_leastYears_67 : decode t_X8_leastYears.2.1 67 = .ok (.aload_n 0, 1) := by decide +kernel
theorem dX8_leastYears_68 : decode t_X8_leastYears.2.1 68 = .ok (.getfield 25, 3) := by decide +kernel
theorem gX8_leastYears_68 : wm_gf t_X8_leastYears 68 8 5 := ⟨_, _, _, 25, rfl, by decide, wd_239, dX8_leastYears_68⟩
theorem dX8_leastYears_71 : decode t_X8_leastYears.2.1 71 = .ok (.invokevirtual 85, 3) := by decide +kernel
theorem wd_830 : Cond.methodLink RX8 85 yX3_take ∈ lw_gd := List.mem_filter.mpr ⟨List.mem_of_getElem? (i := 830) (by decide +kernel), by decide +kernel⟩
theorem iX8_leastYears_71 : wm_iv t_X8_leastYears t_X3_take 71 := ⟨85, wd_830, dX8_leastYears_71⟩
theorem dX8_leastYears_74 : decode t_X8_leastYears.2.1 74 = .ok (.iconst 0, 1) := by decide +kernel
theorem dX8_leastYears_75 : decode t_X8_leastYears.2.1 75 = .ok (.istore 5, 2) := by decide +kernel
theorem dX8_leastYears_77 : decode t_X8_leastYears.2.1 77 = .ok (.iload 5, 2) := by decide +kernel
theorem dX8_leastYears_79 : decode t_X8_leastYears.2.1 79 = .ok (.aload_n 0, 1) := by decide +kernel
theorem dX8_leastYears_80 : decode t_X8_leastYears.2.1 80 = .ok (.getfield 35, 3) := by decide +kernel
theorem gX8_leastYears_80 : wm_gf t_X8_leastYears 80 8 2 := ⟨_, _, _, 35, rfl, by decide, wd_236, dX8_leastYears_80⟩
theorem dX8_leastYears_83 : decode t_X8_leastYears.2.1 83 = .ok (.invokevirtual 88, 3) := by decide +kernel
theorem wd_835 : Cond.methodLink RX8 88 yX4_number ∈ lw_gd := List.mem_filter.mpr ⟨List.mem_of_getElem? (i := 835) (by decide +kernel), by decide +kernel⟩
theorem iX8_leastYears_83 : wm_iv t_X8_leastYears t_X4_number 83 := ⟨88, wd_835, dX8_leastYears_83⟩
theorem dX8_leastYears_86 : decode t_X8_leastYears.2.1 86 = .ok (.if_icmp .ge 43, 3) := by decide +kernel
theorem dX8_leastYears_89 : decode t_X8_leastYears.2.1 89 = .ok (.aload_n 0, 1) := by decide +kernel
theorem dX8_leastYears_90 : decode t_X8_leastYears.2.1 90 = .ok (.getfield 35, 3) := by decide +kernel
theorem gX8_leastYears_90 : wm_gf t_X8_leastYears 90 8 2 := ⟨_, _, _, 35, rfl, by decide, wd_236, dX8_leastYears_90⟩
theorem dX8_leastYears_93 : decode t_X8_leastYears.2.1 93 = .ok (.iload 5, 2) := by decide +kernel
theorem dX8_leastYears_95 : decode t_X8_leastYears.2.1 95 = .ok (.invokevirtual 91, 3) := by decide +kernel
theorem wd_836 : Cond.methodLink RX8 91 yX4_step ∈ lw_gd := List.mem_filter.mpr ⟨List.mem_of_getElem? (i := 836) (by decide +kernel), by decide +kernel⟩
theorem iX8_leastYears_95 : wm_iv t_X8_leastYears t_X4_step 95 := ⟨91, wd_836, dX8_leastYears_95⟩
theorem dX8_leastYears_98 : decode t_X8_leastYears.2.1 98 = .ok (.ifCond .le 25, 3) := by decide +kernel
theorem dX8_leastYears_101 : decode t_X8_leastYears.2.1 101 = .ok (.aload_n 0, 1) := by decide +kernel
theorem dX8_leastYears_102 : decode t_X8_leastYears.2.1 102 = .ok (.getfield 28, 3) := by decide +kernel
theorem gX8_leastYears_102 : wm_gf t_X8_leastYears 102 8 6 := ⟨_, _, _, 28, rfl, by decide, wd_240, dX8_leastYears_102⟩
theorem dX8_leastYears_105 : decode t_X8_leastYears.2.1 105 = .ok (.aload_n 0, 1) := by decide +kernel
theorem dX8_leastYears_106 : decode t_X8_leastYears.2.1 106 = .ok (.getfield 25, 3) := by decide +kernel
theorem gX8_leastYears_106 : wm_gf t_X8_leastYears 106 8 5 := ⟨_, _, _, 25, rfl, by decide, wd_239, dX8_leastYears_106⟩
theorem dX8_leastYears_109 : decode t_X8_leastYears.2.1 109 = .ok (.iload 5, 2) := by decide +kernel
theorem dX8_leastYears_111 : decode t_X8_leastYears.2.1 111 = .ok (.aload_n 0, 1) := by decide +kernel
theorem dX8_leastYears_112 : decode t_X8_leastYears.2.1 112 = .ok (.getfield 35, 3) := by decide +kernel
theorem gX8_leastYears_112 : wm_gf t_X8_leastYears 112 8 2 := ⟨_, _, _, 35, rfl, by decide, wd_236, dX8_leastYears_112⟩
theorem dX8_leastYears_115 : decode t_X8_leastYears.2.1 115 = .ok (.iload 5, 2) := by decide +kernel
theorem dX8_leastYears_117 : decode t_X8_leastYears.2.1 117 = .ok (.invokevirtual 91, 3) := by decide +kernel
theorem iX8_leastYears_117 : wm_iv t_X8_leastYears t_X4_step 117 := ⟨91, wd_836, dX8_leastYears_117⟩
theorem dX8_leastYears_120 : decode t_X8_leastYears.2.1 120 = .ok (.invokevirtual 95, 3) := by decide +kernel
theorem wd_837 : Cond.methodLink RX8 95 yX3_joinMoved ∈ lw_gd := List.mem_filter.mpr ⟨List.mem_of_getElem? (i := 837) (by decide +kernel), by decide +kernel⟩
theorem iX8_leastYears_120 : wm_iv t_X8_leastYears t_X3_joinMoved 120 := ⟨95, wd_837, dX8_leastYears_120⟩
theorem dX8_leastYears_123 : decode t_X8_leastYears.2.1 123 = .ok (.iinc 5 1, 3) := by decide +kernel
theorem dX8_leastYears_126 : decode t_X8_leastYears.2.1 126 = .ok (.goto (-49), 3) := by decide +kernel
theorem dX8_leastYears_129 : decode t_X8_leastYears.2.1 129 = .ok (.aload_n 0, 1) := by decide +kernel
theorem dX8_leastYears_130 : decode t_X8_leastYears.2.1 130 = .ok (.getfield 25, 3) := by decide +kernel
theorem gX8_leastYears_130 : wm_gf t_X8_leastYears 130 8 5 := ⟨_, _, _, 25, rfl, by decide, wd_239, dX8_leastYears_130⟩
theorem dX8_leastYears_133 : decode t_X8_leastYears.2.1 133 = .ok (.aload_n 0, 1) := by decide +kernel
theorem dX8_leastYears_134 : decode t_X8_leastYears.2.1 134 = .ok (.getfield 28, 3) := by decide +kernel
theorem gX8_leastYears_134 : wm_gf t_X8_leastYears 134 8 6 := ⟨_, _, _, 28, rfl, by decide, wd_240, dX8_leastYears_134⟩
theorem dX8_leastYears_137 : decode t_X8_leastYears.2.1 137 = .ok (.invokevirtual 85, 3) := by decide +kernel
theorem iX8_leastYears_137 : wm_iv t_X8_leastYears t_X3_take 137 := ⟨85, wd_830, dX8_leastYears_137⟩
theorem dX8_leastYears_140 : decode t_X8_leastYears.2.1 140 = .ok (.iinc 3 1, 3) := by decide +kernel
theorem dX8_leastYears_143 : decode t_X8_leastYears.2.1 143 = .ok (.goto (-119), 3) := by decide +kernel
theorem dX8_leastYears_146 : decode t_X8_leastYears.2.1 146 = .ok (.bipush (-9), 2) := by decide +kernel
theorem dX8_leastYears_148 : decode t_X8_leastYears.2.1 148 = .ok (.ireturn, 1) := by decide +kernel
theorem wd_915 : Cond.code yX8_isWon cX8_isWon 6 (some .boolean) ∈ lw_gd := List.mem_filter.mpr ⟨List.mem_of_getElem? (i := 915) (by decide +kernel), by decide +kernel⟩
theorem wd_913 : Cond.instanceMethod yX8_isWon ∈ lw_gd := List.mem_filter.mpr ⟨List.mem_of_getElem? (i := 913) (by decide +kernel), by decide +kernel⟩
theorem wd_914 : Cond.selects RX8 yX8_isWon yX8_isWon ∈ lw_gd := List.mem_filter.mpr ⟨List.mem_of_getElem? (i := 914) (by decide +kernel), by decide +kernel⟩
theorem vX8_isWon : wm_calV t_X8_isWon 3 := ⟨⟨wd_915, wd_84, by decide +kernel, by decide +kernel, by decide +kernel⟩, wd_913, wd_914⟩
theorem dX8_isWon_0 : decode t_X8_isWon.2.1 0 = .ok (.aload_n 0, 1) := by decide +kernel
theorem dX8_isWon_1 : decode t_X8_isWon.2.1 1 = .ok (.getfield 25, 3) := by decide +kernel
theorem gX8_isWon_1 : wm_gf t_X8_isWon 1 8 5 := ⟨_, _, _, 25, rfl, by decide, wd_239, dX8_isWon_1⟩
theorem dX8_isWon_4 : decode t_X8_isWon.2.1 4 = .ok (.aload_n 0, 1) := by decide +kernel
theorem dX8_isWon_5 : decode t_X8_isWon.2.1 5 = .ok (.getfield 39, 3) := by decide +kernel
theorem gX8_isWon_5 : wm_gf t_X8_isWon 5 8 3 := ⟨_, _, _, 39, rfl, by decide, wd_237, dX8_isWon_5⟩
theorem dX8_isWon_8 : decode t_X8_isWon.2.1 8 = .ok (.getfield 55, 3) := by decide +kernel
theorem gX8_isWon_8 : wm_gf t_X8_isWon 8 0 1 := ⟨_, _, _, 55, rfl, by decide, wd_207, dX8_isWon_8⟩
theorem dX8_isWon_11 : decode t_X8_isWon.2.1 11 = .ok (.iload_n 1, 1) := by decide +kernel
theorem dX8_isWon_12 : decode t_X8_isWon.2.1 12 = .ok (.aaload, 1) := by decide +kernel
theorem dX8_isWon_13 : decode t_X8_isWon.2.1 13 = .ok (.invokevirtual 85, 3) := by decide +kernel
theorem iX8_isWon_13 : wm_iv t_X8_isWon t_X3_take 13 := ⟨85, wd_830, dX8_isWon_13⟩
theorem dX8_isWon_16 : decode t_X8_isWon.2.1 16 = .ok (.iload_n 2, 1) := by decide +kernel
theorem dX8_isWon_17 : decode t_X8_isWon.2.1 17 = .ok (.istore 4, 2) := by decide +kernel
theorem dX8_isWon_19 : decode t_X8_isWon.2.1 19 = .ok (.iload 4, 2) := by decide +kernel
theorem dX8_isWon_21 : decode t_X8_isWon.2.1 21 = .ok (.iconst 2, 1) := by decide +kernel
theorem dX8_isWon_22 : decode t_X8_isWon.2.1 22 = .ok (.if_icmp .lt 83, 3) := by decide +kernel
theorem dX8_isWon_25 : decode t_X8_isWon.2.1 25 = .ok (.aload_n 0, 1) := by decide +kernel
theorem dX8_isWon_26 : decode t_X8_isWon.2.1 26 = .ok (.getfield 28, 3) := by decide +kernel
theorem gX8_isWon_26 : wm_gf t_X8_isWon 26 8 6 := ⟨_, _, _, 28, rfl, by decide, wd_240, dX8_isWon_26⟩
theorem dX8_isWon_29 : decode t_X8_isWon.2.1 29 = .ok (.aload_n 0, 1) := by decide +kernel
theorem dX8_isWon_30 : decode t_X8_isWon.2.1 30 = .ok (.getfield 25, 3) := by decide +kernel
theorem gX8_isWon_30 : wm_gf t_X8_isWon 30 8 5 := ⟨_, _, _, 25, rfl, by decide, wd_239, dX8_isWon_30⟩
theorem dX8_isWon_33 : decode t_X8_isWon.2.1 33 = .ok (.invokevirtual 85, 3) := by decide +kernel
theorem iX8_isWon_33 : wm_iv t_X8_isWon t_X3_take 33 := ⟨85, wd_830, dX8_isWon_33⟩
theorem dX8_isWon_36 : decode t_X8_isWon.2.1 36 = .ok (.iconst 0, 1) := by decide +kernel
theorem dX8_isWon_37 : decode t_X8_isWon.2.1 37 = .ok (.istore 5, 2) := by decide +kernel
theorem dX8_isWon_39 : decode t_X8_isWon.2.1 39 = .ok (.iload 5, 2) := by decide +kernel
theorem dX8_isWon_41 : decode t_X8_isWon.2.1 41 = .ok (.aload_n 0, 1) := by decide +kernel
theorem dX8_isWon_42 : decode t_X8_isWon.2.1 42 = .ok (.getfield 35, 3) := by decide +kernel
theorem gX8_isWon_42 : wm_gf t_X8_isWon 42 8 2 := ⟨_, _, _, 35, rfl, by decide, wd_236, dX8_isWon_42⟩
theorem dX8_isWon_45 : decode t_X8_isWon.2.1 45 = .ok (.invokevirtual 88, 3) := by decide +kernel
theorem iX8_isWon_45 : wm_iv t_X8_isWon t_X4_number 45 := ⟨88, wd_835, dX8_isWon_45⟩
theorem dX8_isWon_48 : decode t_X8_isWon.2.1 48 = .ok (.if_icmp .ge 40, 3) := by decide +kernel
theorem dX8_isWon_51 : decode t_X8_isWon.2.1 51 = .ok (.aload_n 0, 1) := by decide +kernel
theorem dX8_isWon_52 : decode t_X8_isWon.2.1 52 = .ok (.getfield 35, 3) := by decide +kernel
theorem gX8_isWon_52 : wm_gf t_X8_isWon 52 8 2 := ⟨_, _, _, 35, rfl, by decide, wd_236, dX8_isWon_52⟩
theorem dX8_isWon_55 : decode t_X8_isWon.2.1 55 = .ok (.iload 5, 2) := by decide +kernel
theorem dX8_isWon_57 : decode t_X8_isWon.2.1 57 = .ok (.invokevirtual 91, 3) := by decide +kernel
theorem iX8_isWon_57 : wm_iv t_X8_isWon t_X4_step 57 := ⟨91, wd_836, dX8_isWon_57⟩
theorem dX8_isWon_60 : decode t_X8_isWon.2.1 60 = .ok (.ifCond .le 22, 3) := by decide +kernel
theorem dX8_isWon_63 : decode t_X8_isWon.2.1 63 = .ok (.aload_n 0, 1) := by decide +kernel
theorem dX8_isWon_64 : decode t_X8_isWon.2.1 64 = .ok (.iload 5, 2) := by decide +kernel
theorem dX8_isWon_66 : decode t_X8_isWon.2.1 66 = .ok (.iload 4, 2) := by decide +kernel
theorem dX8_isWon_68 : decode t_X8_isWon.2.1 68 = .ok (.iconst 2, 1) := by decide +kernel
theorem dX8_isWon_69 : decode t_X8_isWon.2.1 69 = .ok (.irem, 1) := by decide +kernel
theorem dX8_isWon_70 : decode t_X8_isWon.2.1 70 = .ok (.iconst 1, 1) := by decide +kernel
theorem dX8_isWon_71 : decode t_X8_isWon.2.1 71 = .ok (.if_icmp .ne 7, 3) := by decide +kernel
theorem dX8_isWon_74 : decode t_X8_isWon.2.1 74 = .ok (.iconst 1, 1) := by decide +kernel
theorem dX8_isWon_75 : decode t_X8_isWon.2.1 75 = .ok (.goto 4, 3) := by decide +kernel
theorem dX8_isWon_78 : decode t_X8_isWon.2.1 78 = .ok (.iconst 0, 1) := by decide +kernel
theorem dX8_isWon_79 : decode t_X8_isWon.2.1 79 = .ok (.invokevirtual 99, 3) := by decide +kernel
theorem wd_916 : Cond.methodLink RX8 99 yX8_reckonTurn ∈ lw_gd := List.mem_filter.mpr ⟨List.mem_of_getElem? (i := 916) (by decide +kernel), by decide +kernel⟩
theorem iX8_isWon_79 : wm_iv t_X8_isWon t_X8_reckonTurn 79 := ⟨99, wd_916, dX8_isWon_79⟩
theorem dX8_isWon_82 : decode t_X8_isWon.2.1 82 = .ok (.iinc 5 1, 3) := by decide +kernel
theorem dX8_isWon_85 : decode t_X8_isWon.2.1 85 = .ok (.goto (-46), 3) := by decide +kernel
theorem dX8_isWon_88 : decode t_X8_isWon.2.1 88 = .ok (.aload_n 0, 1) := by decide +kernel
theorem dX8_isWon_89 : decode t_X8_isWon.2.1 89 = .ok (.getfield 25, 3) := by decide +kernel
theorem gX8_isWon_89 : wm_gf t_X8_isWon 89 8 5 := ⟨_, _, _, 25, rfl, by decide, wd_239, dX8_isWon_89⟩
theorem dX8_isWon_92 : decode t_X8_isWon.2.1 92 = .ok (.aload_n 0, 1) := by decide +kernel
theorem dX8_isWon_93 : decode t_X8_isWon.2.1 93 = .ok (.getfield 28, 3) := by decide +kernel
theorem gX8_isWon_93 : wm_gf t_X8_isWon 93 8 6 := ⟨_, _, _, 28, rfl, by decide, wd_240, dX8_isWon_93⟩
theorem dX8_isWon_96 : decode t_X8_isWon.2.1 96 = .ok (.invokevirtual 85, 3) := by decide +kernel
theorem iX8_isWon_96 : wm_iv t_X8_isWon t_X3_take 96 := ⟨85, wd_830, dX8_isWon_96⟩
theorem dX8_isWon_99 : decode t_X8_isWon.2.1 99 = .ok (.iinc 4 (-1), 3) := by decide +kernel
theorem dX8_isWon_102 : decode t_X8_isWon.2.1 102 = .ok (.goto (-83), 3) := by decide +kernel
theorem dX8_isWon_105 : decode t_X8_isWon.2.1 105 = .ok (.aload_n 0, 1) := by decide +kernel
theorem dX8_isWon_106 : decode t_X8_isWon.2.1 106 = .ok (.bipush (-9), 2) := by decide +kernel
theorem dX8_isWon_108 : decode t_X8_isWon.2.1 108 = .ok (.putfield 15, 3) := by decide +kernel
theorem wd_234 : Cond.fieldLink RX8 15 "TurnedStones$Wants" "opening" "I" ∈ lw_gd := List.mem_filter.mpr ⟨List.mem_of_getElem? (i := 234) (by decide +kernel), by decide +kernel⟩
theorem gX8_isWon_108 : wm_pf t_X8_isWon 108 8 1 .int := ⟨_, _, _, 15, rfl, by decide, wd_234, dX8_isWon_108, rfl, by decide +kernel⟩
theorem dX8_isWon_111 : decode t_X8_isWon.2.1 111 = .ok (.iload_n 2, 1) := by decide +kernel
theorem dX8_isWon_112 : decode t_X8_isWon.2.1 112 = .ok (.ifCond .ne 12, 3) := by decide +kernel
theorem dX8_isWon_115 : decode t_X8_isWon.2.1 115 = .ok (.aload_n 0, 1) := by decide +kernel
theorem dX8_isWon_116 : decode t_X8_isWon.2.1 116 = .ok (.getfield 25, 3) := by decide +kernel
theorem gX8_isWon_116 : wm_gf t_X8_isWon 116 8 5 := ⟨_, _, _, 25, rfl, by decide, wd_239, dX8_isWon_116⟩
theorem dX8_isWon_119 : decode t_X8_isWon.2.1 119 = .ok (.iload_n 3, 1) := by decide +kernel
theorem dX8_isWon_120 : decode t_X8_isWon.2.1 120 = .ok (.invokevirtual 103, 3) := by decide +kernel
theorem wd_924 : Cond.methodLink RX8 103 yX3_has ∈ lw_gd := List.mem_filter.mpr ⟨List.mem_of_getElem? (i := 924) (by decide +kernel), by decide +kernel⟩
theorem iX8_isWon_120 : wm_iv t_X8_isWon t_X3_has 120 := ⟨103, wd_924, dX8_isWon_120⟩
theorem dX8_isWon_123 : decode t_X8_isWon.2.1 123 = .ok (.ireturn, 1) := by decide +kernel
theorem dX8_isWon_124 : decode t_X8_isWon.2.1 124 = .ok (.iconst 0, 1) := by decide +kernel
theorem dX8_isWon_125 : decode t_X8_isWon.2.1 125 = .ok (.istore 4, 2) := by decide +kernel
theorem dX8_isWon_127 : decode t_X8_isWon.2.1 127 = .ok (.iload 4, 2) := by decide +kernel
theorem dX8_isWon_129 : decode t_X8_isWon.2.1 129 = .ok (.aload_n 0, 1) := by decide +kernel
theorem dX8_isWon_130 : decode t_X8_isWon.2.1 130 = .ok (.getfield 35, 3) := by decide +kernel
theorem gX8_isWon_130 : wm_gf t_X8_isWon 130 8 2 := ⟨_, _, _, 35, rfl, by decide, wd_236, dX8_isWon_130⟩
theorem dX8_isWon_133 : decode t_X8_isWon.2.1 133 = .ok (.invokevirtual 88, 3) := by decide +kernel
theorem iX8_isWon_133 : wm_iv t_X8_isWon t_X4_number 133 := ⟨88, wd_835, dX8_isWon_133⟩
theorem dX8_isWon_136 : decode t_X8_isWon.2.1 136 = .ok (.if_icmp .ge 49, 3) := by decide +kernel
theorem dX8_isWon_139 : decode t_X8_isWon.2.1 139 = .ok (.aload_n 0, 1) := by decide +kernel
theorem dX8_isWon_140 : decode t_X8_isWon.2.1 140 = .ok (.getfield 35, 3) := by decide +kernel
theorem gX8_isWon_140 : wm_gf t_X8_isWon 140 8 2 := ⟨_, _, _, 35, rfl, by decide, wd_236, dX8_isWon_140⟩
theorem dX8_isWon_143 : decode t_X8_isWon.2.1 143 = .ok (.iload 4, 2) := by decide +kernel
theorem dX8_isWon_145 : decode t_X8_isWon.2.1 145 = .ok (.invokevirtual 91, 3) := by decide +kernel
theorem iX8_isWon_145 : wm_iv t_X8_isWon t_X4_step 145 := ⟨91, wd_836, dX8_isWon_145⟩
theorem dX8_isWon_148 : decode t_X8_isWon.2.1 148 = .ok (.ifCond .le 31, 3) := by decide +kernel
theorem dX8_isWon_151 : decode t_X8_isWon.2.1 151 = .ok (.aload_n 0, 1) := by decide +kernel
theorem dX8_isWon_152 : decode t_X8_isWon.2.1 152 = .ok (.getfield 25, 3) := by decide +kernel
theorem gX8_isWon_152 : wm_gf t_X8_isWon 152 8 5 := ⟨_, _, _, 25, rfl, by decide, wd_239, dX8_isWon_152⟩
theorem dX8_isWon_155 : decode t_X8_isWon.2.1 155 = .ok (.aload_n 0, 1) := by decide +kernel
theorem dX8_isWon_156 : decode t_X8_isWon.2.1 156 = .ok (.getfield 35, 3) := by decide +kernel
theorem gX8_isWon_156 : wm_gf t_X8_isWon 156 8 2 := ⟨_, _, _, 35, rfl, by decide, wd_236, dX8_isWon_156⟩
theorem dX8_isWon_159 : decode t_X8_isWon.2.1 159 = .ok (.iload_n 3, 1) := by decide +kernel
theorem dX8_isWon_160 : decode t_X8_isWon.2.1 160 = .ok (.iload 4, 2) := by decide +kernel
theorem dX8_isWon_162 : decode t_X8_isWon.2.1 162 = .ok (.invokevirtual 107, 3) := by decide +kernel
theorem wd_925 : Cond.methodLink RX8 107 yX4_moved ∈ lw_gd := List.mem_filter.mpr ⟨List.mem_of_getElem? (i := 925) (by decide +kernel), by decide +kernel⟩
theorem iX8_isWon_162 : wm_iv t_X8_isWon t_X4_moved 162 := ⟨107, wd_925, dX8_isWon_162⟩
theorem dX8_isWon_165 : decode t_X8_isWon.2.1 165 = .ok (.invokevirtual 103, 3) := by decide +kernel
theorem iX8_isWon_165 : wm_iv t_X8_isWon t_X3_has 165 := ⟨103, wd_924, dX8_isWon_165⟩
theorem dX8_isWon_168 : decode t_X8_isWon.2.1 168 = .ok (.ifCond .eq 11, 3) := by decide +kernel
theorem dX8_isWon_171 : decode t_X8_isWon.2.1 171 = .ok (.aload_n 0, 1) := by decide +kernel
theorem dX8_isWon_172 : decode t_X8_isWon.2.1 172 = .ok (.iload 4, 2) := by decide +kernel
theorem dX8_isWon_174 : decode t_X8_isWon.2.1 174 = .ok (.putfield 15, 3) := by decide +kernel
theorem gX8_isWon_174 : wm_pf t_X8_isWon 174 8 1 .int := ⟨_, _, _, 15, rfl, by decide, wd_234, dX8_isWon_174, rfl, by decide +kernel⟩
theorem dX8_isWon_177 : decode t_X8_isWon.2.1 177 = .ok (.iconst 1, 1) := by decide +kernel
theorem dX8_isWon_178 : decode t_X8_isWon.2.1 178 = .ok (.ireturn, 1) := by decide +kernel
theorem dX8_isWon_179 : decode t_X8_isWon.2.1 179 = .ok (.iinc 4 1, 3) := by decide +kernel
theorem dX8_isWon_182 : decode t_X8_isWon.2.1 182 = .ok (.goto (-55), 3) := by decide +kernel
theorem dX8_isWon_185 : decode t_X8_isWon.2.1 185 = .ok (.aload_n 0, 1) := by decide +kernel
theorem dX8_isWon_186 : decode t_X8_isWon.2.1 186 = .ok (.getfield 25, 3) := by decide +kernel
theorem gX8_isWon_186 : wm_gf t_X8_isWon 186 8 5 := ⟨_, _, _, 25, rfl, by decide, wd_239, dX8_isWon_186⟩
theorem dX8_isWon_189 : decode t_X8_isWon.2.1 189 = .ok (.iload_n 3, 1) := by decide +kernel
theorem dX8_isWon_190 : decode t_X8_isWon.2.1 190 = .ok (.invokevirtual 103, 3) := by decide +kernel
theorem iX8_isWon_190 : wm_iv t_X8_isWon t_X3_has 190 := ⟨103, wd_924, dX8_isWon_190⟩
theorem dX8_isWon_193 : decode t_X8_isWon.2.1 193 = .ok (.ireturn, 1) := by decide +kernel
theorem wd_919 : Cond.code yX8_reckonTurn cX8_reckonTurn 4 (none) ∈ lw_gd := List.mem_filter.mpr ⟨List.mem_of_getElem? (i := 919) (by decide +kernel), by decide +kernel⟩
theorem wd_918 : Cond.instanceMethod yX8_reckonTurn ∈ lw_gd := List.mem_filter.mpr ⟨List.mem_of_getElem? (i := 918) (by decide +kernel), by decide +kernel⟩
theorem wd_25 : Cond.selects RX8 yX8_reckonTurn yX8_reckonTurn ∈ lw_gd := List.mem_filter.mpr ⟨List.mem_of_getElem? (i := 25) (by decide +kernel), by decide +kernel⟩
theorem vX8_reckonTurn : wm_calV t_X8_reckonTurn 2 := ⟨⟨wd_919, wd_84, by decide +kernel, by decide +kernel, by decide +kernel⟩, wd_918, wd_25⟩
theorem dX8_reckonTurn_0 : decode t_X8_reckonTurn.2.1 0 = .ok (.iconst 4, 1) := by decide +kernel
theorem dX8_reckonTurn_1 : decode t_X8_reckonTurn.2.1 1 = .ok (.aload_n 0, 1) := by decide +kernel
theorem dX8_reckonTurn_2 : decode t_X8_reckonTurn.2.1 2 = .ok (.getfield 35, 3) := by decide +kernel
theorem gX8_reckonTurn_2 : wm_gf t_X8_reckonTurn 2 8 2 := ⟨_, _, _, 35, rfl, by decide, wd_236, dX8_reckonTurn_2⟩
theorem dX8_reckonTurn_5 : decode t_X8_reckonTurn.2.1 5 = .ok (.iload_n 1, 1) := by decide +kernel
theorem dX8_reckonTurn_6 : decode t_X8_reckonTurn.2.1 6 = .ok (.invokevirtual 91, 3) := by decide +kernel
theorem iX8_reckonTurn_6 : wm_iv t_X8_reckonTurn t_X4_step 6 := ⟨91, wd_836, dX8_reckonTurn_6⟩
theorem dX8_reckonTurn_9 : decode t_X8_reckonTurn.2.1 9 = .ok (.isub, 1) := by decide +kernel
theorem dX8_reckonTurn_10 : decode t_X8_reckonTurn.2.1 10 = .ok (.istore_n 3, 1) := by decide +kernel
theorem dX8_reckonTurn_11 : decode t_X8_reckonTurn.2.1 11 = .ok (.iload_n 2, 1) := by decide +kernel
theorem dX8_reckonTurn_12 : decode t_X8_reckonTurn.2.1 12 = .ok (.ifCond .eq 19, 3) := by decide +kernel
theorem dX8_reckonTurn_15 : decode t_X8_reckonTurn.2.1 15 = .ok (.aload_n 0, 1) := by decide +kernel
theorem dX8_reckonTurn_16 : decode t_X8_reckonTurn.2.1 16 = .ok (.getfield 28, 3) := by decide +kernel
theorem gX8_reckonTurn_16 : wm_gf t_X8_reckonTurn 16 8 6 := ⟨_, _, _, 28, rfl, by decide, wd_240, dX8_reckonTurn_16⟩
theorem dX8_reckonTurn_19 : decode t_X8_reckonTurn.2.1 19 = .ok (.aload_n 0, 1) := by decide +kernel
theorem dX8_reckonTurn_20 : decode t_X8_reckonTurn.2.1 20 = .ok (.getfield 25, 3) := by decide +kernel
theorem gX8_reckonTurn_20 : wm_gf t_X8_reckonTurn 20 8 5 := ⟨_, _, _, 25, rfl, by decide, wd_239, dX8_reckonTurn_20⟩
theorem dX8_reckonTurn_23 : decode t_X8_reckonTurn.2.1 23 = .ok (.iload_n 1, 1) := by decide +kernel
theorem dX8_reckonTurn_24 : decode t_X8_reckonTurn.2.1 24 = .ok (.iload_n 3, 1) := by decide +kernel
theorem dX8_reckonTurn_25 : decode t_X8_reckonTurn.2.1 25 = .ok (.invokevirtual 95, 3) := by decide +kernel
theorem iX8_reckonTurn_25 : wm_iv t_X8_reckonTurn t_X3_joinMoved 25 := ⟨95, wd_837, dX8_reckonTurn_25⟩
theorem dX8_reckonTurn_28 : decode t_X8_reckonTurn.2.1 28 = .ok (.goto 16, 3) := by decide +kernel
theorem dX8_reckonTurn_31 : decode t_X8_reckonTurn.2.1 31 = .ok (.aload_n 0, 1) := by decide +kernel
theorem dX8_reckonTurn_32 : decode t_X8_reckonTurn.2.1 32 = .ok (.getfield 28, 3) := by decide +kernel
theorem gX8_reckonTurn_32 : wm_gf t_X8_reckonTurn 32 8 6 := ⟨_, _, _, 28, rfl, by decide, wd_240, dX8_reckonTurn_32⟩
theorem dX8_reckonTurn_35 : decode t_X8_reckonTurn.2.1 35 = .ok (.aload_n 0, 1) := by decide +kernel
theorem dX8_reckonTurn_36 : decode t_X8_reckonTurn.2.1 36 = .ok (.getfield 25, 3) := by decide +kernel
theorem gX8_reckonTurn_36 : wm_gf t_X8_reckonTurn 36 8 5 := ⟨_, _, _, 25, rfl, by decide, wd_239, dX8_reckonTurn_36⟩
theorem dX8_reckonTurn_39 : decode t_X8_reckonTurn.2.1 39 = .ok (.iload_n 1, 1) := by decide +kernel
theorem dX8_reckonTurn_40 : decode t_X8_reckonTurn.2.1 40 = .ok (.iload_n 3, 1) := by decide +kernel
theorem dX8_reckonTurn_41 : decode t_X8_reckonTurn.2.1 41 = .ok (.invokevirtual 111, 3) := by decide +kernel
theorem wd_920 : Cond.methodLink RX8 111 yX3_meetMoved ∈ lw_gd := List.mem_filter.mpr ⟨List.mem_of_getElem? (i := 920) (by decide +kernel), by decide +kernel⟩
theorem iX8_reckonTurn_41 : wm_iv t_X8_reckonTurn t_X3_meetMoved 41 := ⟨111, wd_920, dX8_reckonTurn_41⟩
theorem dX8_reckonTurn_44 : decode t_X8_reckonTurn.2.1 44 = .ok (.return_, 1) := by decide +kernel
