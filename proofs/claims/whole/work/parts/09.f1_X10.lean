theorem wd_1339 : Cond.code yX10_kindOf cX10_kindOf 1 (some .int) ∈ lw_gd := List.mem_filter.mpr ⟨List.mem_of_getElem? (i := 1339) (by decide +kernel), by decide +kernel⟩
theorem wd_1338 : Cond.static yX10_kindOf ∈ lw_gd := List.mem_filter.mpr ⟨List.mem_of_getElem? (i := 1338) (by decide +kernel), by decide +kernel⟩
theorem vX10_kindOf : wm_calS t_X10_kindOf 1 := ⟨⟨wd_1339, wd_88, by decide +kernel, by decide +kernel, by decide +kernel⟩, wd_1338⟩
theorem dX10_kindOf_0 : decode t_X10_kindOf.2.1 0 = .ok (.iload_n 0, 1) := by decide +kernel
theorem dX10_kindOf_1 : decode t_X10_kindOf.2.1 1 = .ok (.lookupswitch 71 #[(99, 67), (102, 63), (104, 65), (115, 59), (117, 69), (120, 61)], 59) := by decide +kernel
theorem dX10_kindOf_60 : decode t_X10_kindOf.2.1 60 = .ok (.iconst 0, 1) := by decide +kernel
theorem dX10_kindOf_61 : decode t_X10_kindOf.2.1 61 = .ok (.ireturn, 1) := by decide +kernel
theorem dX10_kindOf_62 : decode t_X10_kindOf.2.1 62 = .ok (.iconst 1, 1) := by decide +kernel
theorem dX10_kindOf_63 : decode t_X10_kindOf.2.1 63 = .ok (.ireturn, 1) := by decide +kernel
theorem dX10_kindOf_64 : decode t_X10_kindOf.2.1 64 = .ok (.iconst 2, 1) := by decide +kernel
theorem dX10_kindOf_65 : decode t_X10_kindOf.2.1 65 = .ok (.ireturn, 1) := by decide +kernel
theorem dX10_kindOf_66 : decode t_X10_kindOf.2.1 66 = .ok (.iconst 3, 1) := by decide +kernel
theorem dX10_kindOf_67 : decode t_X10_kindOf.2.1 67 = .ok (.ireturn, 1) := by decide +kernel
theorem dX10_kindOf_68 : decode t_X10_kindOf.2.1 68 = .ok (.iconst 4, 1) := by decide +kernel
theorem dX10_kindOf_69 : decode t_X10_kindOf.2.1 69 = .ok (.ireturn, 1) := by decide +kernel
theorem dX10_kindOf_70 : decode t_X10_kindOf.2.1 70 = .ok (.iconst 5, 1) := by decide +kernel
theorem dX10_kindOf_71 : decode t_X10_kindOf.2.1 71 = .ok (.ireturn, 1) := by decide +kernel
theorem dX10_kindOf_72 : decode t_X10_kindOf.2.1 72 = .ok (.bipush (-9), 2) := by decide +kernel
theorem dX10_kindOf_74 : decode t_X10_kindOf.2.1 74 = .ok (.ireturn, 1) := by decide +kernel
theorem wd_1328 : Cond.code yX10_readsGrid cX10_readsGrid 3 (some .boolean) ∈ lw_gd := List.mem_filter.mpr ⟨List.mem_of_getElem? (i := 1328) (by decide +kernel), by decide +kernel⟩
theorem wd_1327 : Cond.instanceMethod yX10_readsGrid ∈ lw_gd := List.mem_filter.mpr ⟨List.mem_of_getElem? (i := 1327) (by decide +kernel), by decide +kernel⟩
theorem wd_39 : Cond.selects RX10 yX10_readsGrid yX10_readsGrid ∈ lw_gd := List.mem_filter.mpr ⟨List.mem_of_getElem? (i := 39) (by decide +kernel), by decide +kernel⟩
theorem vX10_readsGrid : wm_calV t_X10_readsGrid 1 := ⟨⟨wd_1328, wd_88, by decide +kernel, by decide +kernel, by decide +kernel⟩, wd_1327, wd_39⟩
theorem dX10_readsGrid_0 : decode t_X10_readsGrid.2.1 0 = .ok (.aload_n 0, 1) := by decide +kernel
theorem dX10_readsGrid_1 : decode t_X10_readsGrid.2.1 1 = .ok (.iload_n 1, 1) := by decide +kernel
theorem dX10_readsGrid_2 : decode t_X10_readsGrid.2.1 2 = .ok (.bipush 103, 2) := by decide +kernel
theorem dX10_readsGrid_4 : decode t_X10_readsGrid.2.1 4 = .ok (.bipush 103, 2) := by decide +kernel
theorem dX10_readsGrid_6 : decode t_X10_readsGrid.2.1 6 = .ok (.invokevirtual 134, 3) := by decide +kernel
theorem wd_1329 : Cond.methodLink RX10 134 yX10_sign ∈ lw_gd := List.mem_filter.mpr ⟨List.mem_of_getElem? (i := 1329) (by decide +kernel), by decide +kernel⟩
theorem iX10_readsGrid_6 : wm_iv t_X10_readsGrid t_X10_sign 6 := ⟨134, wd_1329, dX10_readsGrid_6⟩
theorem dX10_readsGrid_9 : decode t_X10_readsGrid.2.1 9 = .ok (.ifCond .eq 15, 3) := by decide +kernel
theorem dX10_readsGrid_12 : decode t_X10_readsGrid.2.1 12 = .ok (.aload_n 0, 1) := by decide +kernel
theorem dX10_readsGrid_13 : decode t_X10_readsGrid.2.1 13 = .ok (.iload_n 1, 1) := by decide +kernel
theorem dX10_readsGrid_14 : decode t_X10_readsGrid.2.1 14 = .ok (.bipush 49, 2) := by decide +kernel
theorem dX10_readsGrid_16 : decode t_X10_readsGrid.2.1 16 = .ok (.bipush 51, 2) := by decide +kernel
theorem dX10_readsGrid_18 : decode t_X10_readsGrid.2.1 18 = .ok (.invokevirtual 134, 3) := by decide +kernel
theorem iX10_readsGrid_18 : wm_iv t_X10_readsGrid t_X10_sign 18 := ⟨134, wd_1329, dX10_readsGrid_18⟩
theorem dX10_readsGrid_21 : decode t_X10_readsGrid.2.1 21 = .ok (.ifCond .ne 5, 3) := by decide +kernel
theorem dX10_readsGrid_24 : decode t_X10_readsGrid.2.1 24 = .ok (.iconst 0, 1) := by decide +kernel
theorem dX10_readsGrid_25 : decode t_X10_readsGrid.2.1 25 = .ok (.ireturn, 1) := by decide +kernel
theorem dX10_readsGrid_26 : decode t_X10_readsGrid.2.1 26 = .ok (.aload_n 0, 1) := by decide +kernel
theorem dX10_readsGrid_27 : decode t_X10_readsGrid.2.1 27 = .ok (.getfield 131, 3) := by decide +kernel
theorem gX10_readsGrid_27 : wm_gf t_X10_readsGrid 27 10 20 := ⟨_, _, _, 131, rfl, by decide, wd_1134, dX10_readsGrid_27⟩
theorem dX10_readsGrid_30 : decode t_X10_readsGrid.2.1 30 = .ok (.iconst 1, 1) := by decide +kernel
theorem dX10_readsGrid_31 : decode t_X10_readsGrid.2.1 31 = .ok (.iadd, 1) := by decide +kernel
theorem dX10_readsGrid_32 : decode t_X10_readsGrid.2.1 32 = .ok (.istore_n 2, 1) := by decide +kernel
theorem dX10_readsGrid_33 : decode t_X10_readsGrid.2.1 33 = .ok (.aload_n 0, 1) := by decide +kernel
theorem dX10_readsGrid_34 : decode t_X10_readsGrid.2.1 34 = .ok (.iload_n 1, 1) := by decide +kernel
theorem dX10_readsGrid_35 : decode t_X10_readsGrid.2.1 35 = .ok (.bipush 49, 2) := by decide +kernel
theorem dX10_readsGrid_37 : decode t_X10_readsGrid.2.1 37 = .ok (.bipush 50, 2) := by decide +kernel
theorem dX10_readsGrid_39 : decode t_X10_readsGrid.2.1 39 = .ok (.invokevirtual 134, 3) := by decide +kernel
theorem iX10_readsGrid_39 : wm_iv t_X10_readsGrid t_X10_sign 39 := ⟨134, wd_1329, dX10_readsGrid_39⟩
theorem dX10_readsGrid_42 : decode t_X10_readsGrid.2.1 42 = .ok (.ifCond .ne 5, 3) := by decide +kernel
theorem dX10_readsGrid_45 : decode t_X10_readsGrid.2.1 45 = .ok (.iconst 0, 1) := by decide +kernel
theorem dX10_readsGrid_46 : decode t_X10_readsGrid.2.1 46 = .ok (.ireturn, 1) := by decide +kernel
theorem dX10_readsGrid_47 : decode t_X10_readsGrid.2.1 47 = .ok (.aload_n 0, 1) := by decide +kernel
theorem dX10_readsGrid_48 : decode t_X10_readsGrid.2.1 48 = .ok (.iload_n 2, 1) := by decide +kernel
theorem dX10_readsGrid_49 : decode t_X10_readsGrid.2.1 49 = .ok (.putfield 137, 3) := by decide +kernel
theorem wd_1135 : Cond.fieldLink RX10 137 "TurnedStonesModel" "readWide" "I" ∈ lw_gd := List.mem_filter.mpr ⟨List.mem_of_getElem? (i := 1135) (by decide +kernel), by decide +kernel⟩
theorem gX10_readsGrid_49 : wm_pf t_X10_readsGrid 49 10 21 .int := ⟨_, _, _, 137, rfl, by decide, wd_1135, dX10_readsGrid_49, rfl, by decide +kernel⟩
theorem dX10_readsGrid_52 : decode t_X10_readsGrid.2.1 52 = .ok (.aload_n 0, 1) := by decide +kernel
theorem dX10_readsGrid_53 : decode t_X10_readsGrid.2.1 53 = .ok (.aload_n 0, 1) := by decide +kernel
theorem dX10_readsGrid_54 : decode t_X10_readsGrid.2.1 54 = .ok (.getfield 131, 3) := by decide +kernel
theorem gX10_readsGrid_54 : wm_gf t_X10_readsGrid 54 10 20 := ⟨_, _, _, 131, rfl, by decide, wd_1134, dX10_readsGrid_54⟩
theorem dX10_readsGrid_57 : decode t_X10_readsGrid.2.1 57 = .ok (.iconst 1, 1) := by decide +kernel
theorem dX10_readsGrid_58 : decode t_X10_readsGrid.2.1 58 = .ok (.iadd, 1) := by decide +kernel
theorem dX10_readsGrid_59 : decode t_X10_readsGrid.2.1 59 = .ok (.putfield 140, 3) := by decide +kernel
theorem wd_1136 : Cond.fieldLink RX10 140 "TurnedStonesModel" "readHigh" "I" ∈ lw_gd := List.mem_filter.mpr ⟨List.mem_of_getElem? (i := 1136) (by decide +kernel), by decide +kernel⟩
theorem gX10_readsGrid_59 : wm_pf t_X10_readsGrid 59 10 22 .int := ⟨_, _, _, 140, rfl, by decide, wd_1136, dX10_readsGrid_59, rfl, by decide +kernel⟩
theorem dX10_readsGrid_62 : decode t_X10_readsGrid.2.1 62 = .ok (.iconst 1, 1) := by decide +kernel
theorem dX10_readsGrid_63 : decode t_X10_readsGrid.2.1 63 = .ok (.ireturn, 1) := by decide +kernel
theorem wd_1336 : Cond.code yX10_readsStone cX10_readsStone 5 (some .boolean) ∈ lw_gd := List.mem_filter.mpr ⟨List.mem_of_getElem? (i := 1336) (by decide +kernel), by decide +kernel⟩
theorem wd_1335 : Cond.instanceMethod yX10_readsStone ∈ lw_gd := List.mem_filter.mpr ⟨List.mem_of_getElem? (i := 1335) (by decide +kernel), by decide +kernel⟩
theorem wd_41 : Cond.selects RX10 yX10_readsStone yX10_readsStone ∈ lw_gd := List.mem_filter.mpr ⟨List.mem_of_getElem? (i := 41) (by decide +kernel), by decide +kernel⟩
theorem vX10_readsStone : wm_calV t_X10_readsStone 1 := ⟨⟨wd_1336, wd_88, by decide +kernel, by decide +kernel, by decide +kernel⟩, wd_1335, wd_41⟩
theorem dX10_readsStone_0 : decode t_X10_readsStone.2.1 0 = .ok (.aload_n 0, 1) := by decide +kernel
theorem dX10_readsStone_1 : decode t_X10_readsStone.2.1 1 = .ok (.iload_n 1, 1) := by decide +kernel
theorem dX10_readsStone_2 : decode t_X10_readsStone.2.1 2 = .ok (.aload_n 0, 1) := by decide +kernel
theorem dX10_readsStone_3 : decode t_X10_readsStone.2.1 3 = .ok (.getfield 125, 3) := by decide +kernel
theorem gX10_readsStone_3 : wm_gf t_X10_readsStone 3 10 19 := ⟨_, _, _, 125, rfl, by decide, wd_1133, dX10_readsStone_3⟩
theorem dX10_readsStone_6 : decode t_X10_readsStone.2.1 6 = .ok (.invokevirtual 128, 3) := by decide +kernel
theorem iX10_readsStone_6 : wm_iv t_X10_readsStone t_X10_byteAt 6 := ⟨128, wd_1321, dX10_readsStone_6⟩
theorem dX10_readsStone_9 : decode t_X10_readsStone.2.1 9 = .ok (.invokestatic 143, 3) := by decide +kernel
theorem wd_1337 : Cond.methodLink RX10 143 yX10_kindOf ∈ lw_gd := List.mem_filter.mpr ⟨List.mem_of_getElem? (i := 1337) (by decide +kernel), by decide +kernel⟩
theorem iX10_readsStone_9 : wm_is t_X10_readsStone t_X10_kindOf 9 := ⟨143, wd_1337, dX10_readsStone_9⟩
theorem dX10_readsStone_12 : decode t_X10_readsStone.2.1 12 = .ok (.istore_n 2, 1) := by decide +kernel
theorem dX10_readsStone_13 : decode t_X10_readsStone.2.1 13 = .ok (.iload_n 2, 1) := by decide +kernel
theorem dX10_readsStone_14 : decode t_X10_readsStone.2.1 14 = .ok (.bipush (-9), 2) := by decide +kernel
theorem dX10_readsStone_16 : decode t_X10_readsStone.2.1 16 = .ok (.if_icmp .eq 19, 3) := by decide +kernel
theorem dX10_readsStone_19 : decode t_X10_readsStone.2.1 19 = .ok (.aload_n 0, 1) := by decide +kernel
theorem dX10_readsStone_20 : decode t_X10_readsStone.2.1 20 = .ok (.getfield 146, 3) := by decide +kernel
theorem wd_1137 : Cond.fieldLink RX10 146 "TurnedStonesModel" "readMany" "I" ∈ lw_gd := List.mem_filter.mpr ⟨List.mem_of_getElem? (i := 1137) (by decide +kernel), by decide +kernel⟩
theorem gX10_readsStone_20 : wm_gf t_X10_readsStone 20 10 23 := ⟨_, _, _, 146, rfl, by decide, wd_1137, dX10_readsStone_20⟩
theorem dX10_readsStone_23 : decode t_X10_readsStone.2.1 23 = .ok (.aload_n 0, 1) := by decide +kernel
theorem dX10_readsStone_24 : decode t_X10_readsStone.2.1 24 = .ok (.getfield 137, 3) := by decide +kernel
theorem gX10_readsStone_24 : wm_gf t_X10_readsStone 24 10 21 := ⟨_, _, _, 137, rfl, by decide, wd_1135, dX10_readsStone_24⟩
theorem dX10_readsStone_27 : decode t_X10_readsStone.2.1 27 = .ok (.aload_n 0, 1) := by decide +kernel
theorem dX10_readsStone_28 : decode t_X10_readsStone.2.1 28 = .ok (.getfield 140, 3) := by decide +kernel
theorem gX10_readsStone_28 : wm_gf t_X10_readsStone 28 10 22 := ⟨_, _, _, 140, rfl, by decide, wd_1136, dX10_readsStone_28⟩
theorem dX10_readsStone_31 : decode t_X10_readsStone.2.1 31 = .ok (.imul, 1) := by decide +kernel
theorem dX10_readsStone_32 : decode t_X10_readsStone.2.1 32 = .ok (.if_icmp .ne 5, 3) := by decide +kernel
theorem dX10_readsStone_35 : decode t_X10_readsStone.2.1 35 = .ok (.iconst 0, 1) := by decide +kernel
theorem dX10_readsStone_36 : decode t_X10_readsStone.2.1 36 = .ok (.ireturn, 1) := by decide +kernel
theorem dX10_readsStone_37 : decode t_X10_readsStone.2.1 37 = .ok (.aload_n 0, 1) := by decide +kernel
theorem dX10_readsStone_38 : decode t_X10_readsStone.2.1 38 = .ok (.dup, 1) := by decide +kernel
theorem dX10_readsStone_39 : decode t_X10_readsStone.2.1 39 = .ok (.getfield 125, 3) := by decide +kernel
theorem gX10_readsStone_39 : wm_gf t_X10_readsStone 39 10 19 := ⟨_, _, _, 125, rfl, by decide, wd_1133, dX10_readsStone_39⟩
theorem dX10_readsStone_42 : decode t_X10_readsStone.2.1 42 = .ok (.iconst 1, 1) := by decide +kernel
theorem dX10_readsStone_43 : decode t_X10_readsStone.2.1 43 = .ok (.iadd, 1) := by decide +kernel
theorem dX10_readsStone_44 : decode t_X10_readsStone.2.1 44 = .ok (.putfield 125, 3) := by decide +kernel
theorem gX10_readsStone_44 : wm_pf t_X10_readsStone 44 10 19 .int := ⟨_, _, _, 125, rfl, by decide, wd_1133, dX10_readsStone_44, rfl, by decide +kernel⟩
theorem dX10_readsStone_47 : decode t_X10_readsStone.2.1 47 = .ok (.bipush 7, 2) := by decide +kernel
theorem dX10_readsStone_49 : decode t_X10_readsStone.2.1 49 = .ok (.aload_n 0, 1) := by decide +kernel
theorem dX10_readsStone_50 : decode t_X10_readsStone.2.1 50 = .ok (.getfield 146, 3) := by decide +kernel
theorem gX10_readsStone_50 : wm_gf t_X10_readsStone 50 10 23 := ⟨_, _, _, 146, rfl, by decide, wd_1137, dX10_readsStone_50⟩
theorem dX10_readsStone_53 : decode t_X10_readsStone.2.1 53 = .ok (.imul, 1) := by decide +kernel
theorem dX10_readsStone_54 : decode t_X10_readsStone.2.1 54 = .ok (.istore_n 3, 1) := by decide +kernel
theorem dX10_readsStone_55 : decode t_X10_readsStone.2.1 55 = .ok (.aload_n 0, 1) := by decide +kernel
theorem dX10_readsStone_56 : decode t_X10_readsStone.2.1 56 = .ok (.getfield 44, 3) := by decide +kernel
theorem wd_1138 : Cond.fieldLink RX10 44 "TurnedStonesModel" "readStones" "[I" ∈ lw_gd := List.mem_filter.mpr ⟨List.mem_of_getElem? (i := 1138) (by decide +kernel), by decide +kernel⟩
theorem gX10_readsStone_56 : wm_gf t_X10_readsStone 56 10 24 := ⟨_, _, _, 44, rfl, by decide, wd_1138, dX10_readsStone_56⟩
theorem dX10_readsStone_59 : decode t_X10_readsStone.2.1 59 = .ok (.iload_n 3, 1) := by decide +kernel
theorem dX10_readsStone_60 : decode t_X10_readsStone.2.1 60 = .ok (.iload_n 2, 1) := by decide +kernel
theorem dX10_readsStone_61 : decode t_X10_readsStone.2.1 61 = .ok (.iastore, 1) := by decide +kernel
theorem dX10_readsStone_62 : decode t_X10_readsStone.2.1 62 = .ok (.iconst 0, 1) := by decide +kernel
theorem dX10_readsStone_63 : decode t_X10_readsStone.2.1 63 = .ok (.istore 4, 2) := by decide +kernel
theorem dX10_readsStone_65 : decode t_X10_readsStone.2.1 65 = .ok (.iload 4, 2) := by decide +kernel
theorem dX10_readsStone_67 : decode t_X10_readsStone.2.1 67 = .ok (.iconst 4, 1) := by decide +kernel
theorem dX10_readsStone_68 : decode t_X10_readsStone.2.1 68 = .ok (.if_icmp .ge 38, 3) := by decide +kernel
theorem dX10_readsStone_71 : decode t_X10_readsStone.2.1 71 = .ok (.aload_n 0, 1) := by decide +kernel
theorem dX10_readsStone_72 : decode t_X10_readsStone.2.1 72 = .ok (.iload_n 1, 1) := by decide +kernel
theorem dX10_readsStone_73 : decode t_X10_readsStone.2.1 73 = .ok (.bipush 97, 2) := by decide +kernel
theorem dX10_readsStone_75 : decode t_X10_readsStone.2.1 75 = .ok (.bipush 104, 2) := by decide +kernel
theorem dX10_readsStone_77 : decode t_X10_readsStone.2.1 77 = .ok (.invokevirtual 134, 3) := by decide +kernel
theorem iX10_readsStone_77 : wm_iv t_X10_readsStone t_X10_sign 77 := ⟨134, wd_1329, dX10_readsStone_77⟩
theorem dX10_readsStone_80 : decode t_X10_readsStone.2.1 80 = .ok (.ifCond .ne 5, 3) := by decide +kernel
theorem dX10_readsStone_83 : decode t_X10_readsStone.2.1 83 = .ok (.iconst 0, 1) := by decide +kernel
theorem dX10_readsStone_84 : decode t_X10_readsStone.2.1 84 = .ok (.ireturn, 1) := by decide +kernel
theorem dX10_readsStone_85 : decode t_X10_readsStone.2.1 85 = .ok (.aload_n 0, 1) := by decide +kernel
theorem dX10_readsStone_86 : decode t_X10_readsStone.2.1 86 = .ok (.getfield 44, 3) := by decide +kernel
theorem gX10_readsStone_86 : wm_gf t_X10_readsStone 86 10 24 := ⟨_, _, _, 44, rfl, by decide, wd_1138, dX10_readsStone_86⟩
theorem dX10_readsStone_89 : decode t_X10_readsStone.2.1 89 = .ok (.iload_n 3, 1) := by decide +kernel
theorem dX10_readsStone_90 : decode t_X10_readsStone.2.1 90 = .ok (.iconst 1, 1) := by decide +kernel
theorem dX10_readsStone_91 : decode t_X10_readsStone.2.1 91 = .ok (.iadd, 1) := by decide +kernel
theorem dX10_readsStone_92 : decode t_X10_readsStone.2.1 92 = .ok (.iload 4, 2) := by decide +kernel
theorem dX10_readsStone_94 : decode t_X10_readsStone.2.1 94 = .ok (.iadd, 1) := by decide +kernel
theorem dX10_readsStone_95 : decode t_X10_readsStone.2.1 95 = .ok (.aload_n 0, 1) := by decide +kernel
theorem dX10_readsStone_96 : decode t_X10_readsStone.2.1 96 = .ok (.getfield 131, 3) := by decide +kernel
theorem gX10_readsStone_96 : wm_gf t_X10_readsStone 96 10 20 := ⟨_, _, _, 131, rfl, by decide, wd_1134, dX10_readsStone_96⟩
theorem dX10_readsStone_99 : decode t_X10_readsStone.2.1 99 = .ok (.iastore, 1) := by decide +kernel
theorem dX10_readsStone_100 : decode t_X10_readsStone.2.1 100 = .ok (.iinc 4 1, 3) := by decide +kernel
theorem dX10_readsStone_103 : decode t_X10_readsStone.2.1 103 = .ok (.goto (-38), 3) := by decide +kernel
theorem dX10_readsStone_106 : decode t_X10_readsStone.2.1 106 = .ok (.aload_n 0, 1) := by decide +kernel
theorem dX10_readsStone_107 : decode t_X10_readsStone.2.1 107 = .ok (.getfield 44, 3) := by decide +kernel
theorem gX10_readsStone_107 : wm_gf t_X10_readsStone 107 10 24 := ⟨_, _, _, 44, rfl, by decide, wd_1138, dX10_readsStone_107⟩
theorem dX10_readsStone_110 : decode t_X10_readsStone.2.1 110 = .ok (.iload_n 3, 1) := by decide +kernel
theorem dX10_readsStone_111 : decode t_X10_readsStone.2.1 111 = .ok (.iconst 5, 1) := by decide +kernel
theorem dX10_readsStone_112 : decode t_X10_readsStone.2.1 112 = .ok (.iadd, 1) := by decide +kernel
theorem dX10_readsStone_113 : decode t_X10_readsStone.2.1 113 = .ok (.bipush (-9), 2) := by decide +kernel
theorem dX10_readsStone_115 : decode t_X10_readsStone.2.1 115 = .ok (.iastore, 1) := by decide +kernel
theorem dX10_readsStone_116 : decode t_X10_readsStone.2.1 116 = .ok (.aload_n 0, 1) := by decide +kernel
theorem dX10_readsStone_117 : decode t_X10_readsStone.2.1 117 = .ok (.getfield 44, 3) := by decide +kernel
theorem gX10_readsStone_117 : wm_gf t_X10_readsStone 117 10 24 := ⟨_, _, _, 44, rfl, by decide, wd_1138, dX10_readsStone_117⟩
theorem dX10_readsStone_120 : decode t_X10_readsStone.2.1 120 = .ok (.iload_n 3, 1) := by decide +kernel
theorem dX10_readsStone_121 : decode t_X10_readsStone.2.1 121 = .ok (.bipush 6, 2) := by decide +kernel
theorem dX10_readsStone_123 : decode t_X10_readsStone.2.1 123 = .ok (.iadd, 1) := by decide +kernel
theorem dX10_readsStone_124 : decode t_X10_readsStone.2.1 124 = .ok (.bipush (-9), 2) := by decide +kernel
theorem dX10_readsStone_126 : decode t_X10_readsStone.2.1 126 = .ok (.iastore, 1) := by decide +kernel
theorem dX10_readsStone_127 : decode t_X10_readsStone.2.1 127 = .ok (.iload_n 2, 1) := by decide +kernel
theorem dX10_readsStone_128 : decode t_X10_readsStone.2.1 128 = .ok (.iconst 1, 1) := by decide +kernel
theorem dX10_readsStone_129 : decode t_X10_readsStone.2.1 129 = .ok (.if_icmp .eq 8, 3) := by decide +kernel
theorem dX10_readsStone_132 : decode t_X10_readsStone.2.1 132 = .ok (.iload_n 2, 1) := by decide +kernel
theorem dX10_readsStone_133 : decode t_X10_readsStone.2.1 133 = .ok (.iconst 4, 1) := by decide +kernel
theorem dX10_readsStone_134 : decode t_X10_readsStone.2.1 134 = .ok (.if_icmp .ne 80, 3) := by decide +kernel
theorem dX10_readsStone_137 : decode t_X10_readsStone.2.1 137 = .ok (.aload_n 0, 1) := by decide +kernel
theorem dX10_readsStone_138 : decode t_X10_readsStone.2.1 138 = .ok (.iload_n 1, 1) := by decide +kernel
theorem dX10_readsStone_139 : decode t_X10_readsStone.2.1 139 = .ok (.bipush 48, 2) := by decide +kernel
theorem dX10_readsStone_141 : decode t_X10_readsStone.2.1 141 = .ok (.bipush 51, 2) := by decide +kernel
theorem dX10_readsStone_143 : decode t_X10_readsStone.2.1 143 = .ok (.invokevirtual 134, 3) := by decide +kernel
theorem iX10_readsStone_143 : wm_iv t_X10_readsStone t_X10_sign 143 := ⟨134, wd_1329, dX10_readsStone_143⟩
theorem dX10_readsStone_146 : decode t_X10_readsStone.2.1 146 = .ok (.ifCond .ne 5, 3) := by decide +kernel
theorem dX10_readsStone_149 : decode t_X10_readsStone.2.1 149 = .ok (.iconst 0, 1) := by decide +kernel
theorem dX10_readsStone_150 : decode t_X10_readsStone.2.1 150 = .ok (.ireturn, 1) := by decide +kernel
theorem dX10_readsStone_151 : decode t_X10_readsStone.2.1 151 = .ok (.aload_n 0, 1) := by decide +kernel
theorem dX10_readsStone_152 : decode t_X10_readsStone.2.1 152 = .ok (.getfield 131, 3) := by decide +kernel
theorem gX10_readsStone_152 : wm_gf t_X10_readsStone 152 10 20 := ⟨_, _, _, 131, rfl, by decide, wd_1134, dX10_readsStone_152⟩
theorem dX10_readsStone_155 : decode t_X10_readsStone.2.1 155 = .ok (.istore 4, 2) := by decide +kernel
theorem dX10_readsStone_157 : decode t_X10_readsStone.2.1 157 = .ok (.aload_n 0, 1) := by decide +kernel
theorem dX10_readsStone_158 : decode t_X10_readsStone.2.1 158 = .ok (.getfield 44, 3) := by decide +kernel
theorem gX10_readsStone_158 : wm_gf t_X10_readsStone 158 10 24 := ⟨_, _, _, 44, rfl, by decide, wd_1138, dX10_readsStone_158⟩
theorem dX10_readsStone_161 : decode t_X10_readsStone.2.1 161 = .ok (.iload_n 3, 1) := by decide +kernel
theorem dX10_readsStone_162 : decode t_X10_readsStone.2.1 162 = .ok (.iconst 5, 1) := by decide +kernel
theorem dX10_readsStone_163 : decode t_X10_readsStone.2.1 163 = .ok (.iadd, 1) := by decide +kernel
theorem dX10_readsStone_164 : decode t_X10_readsStone.2.1 164 = .ok (.iload 4, 2) := by decide +kernel
theorem dX10_readsStone_166 : decode t_X10_readsStone.2.1 166 = .ok (.iastore, 1) := by decide +kernel
theorem dX10_readsStone_167 : decode t_X10_readsStone.2.1 167 = .ok (.iload_n 2, 1) := by decide +kernel
theorem dX10_readsStone_168 : decode t_X10_readsStone.2.1 168 = .ok (.iconst 4, 1) := by decide +kernel
theorem dX10_readsStone_169 : decode t_X10_readsStone.2.1 169 = .ok (.if_icmp .ne 18, 3) := by decide +kernel
theorem dX10_readsStone_172 : decode t_X10_readsStone.2.1 172 = .ok (.aload_n 0, 1) := by decide +kernel
theorem dX10_readsStone_173 : decode t_X10_readsStone.2.1 173 = .ok (.getfield 44, 3) := by decide +kernel
theorem gX10_readsStone_173 : wm_gf t_X10_readsStone 173 10 24 := ⟨_, _, _, 44, rfl, by decide, wd_1138, dX10_readsStone_173⟩
theorem dX10_readsStone_176 : decode t_X10_readsStone.2.1 176 = .ok (.iload_n 3, 1) := by decide +kernel
theorem dX10_readsStone_177 : decode t_X10_readsStone.2.1 177 = .ok (.iconst 1, 1) := by decide +kernel
theorem dX10_readsStone_178 : decode t_X10_readsStone.2.1 178 = .ok (.iadd, 1) := by decide +kernel
theorem dX10_readsStone_179 : decode t_X10_readsStone.2.1 179 = .ok (.iload 4, 2) := by decide +kernel
theorem dX10_readsStone_181 : decode t_X10_readsStone.2.1 181 = .ok (.iadd, 1) := by decide +kernel
theorem dX10_readsStone_182 : decode t_X10_readsStone.2.1 182 = .ok (.iconst (-1), 1) := by decide +kernel
theorem dX10_readsStone_183 : decode t_X10_readsStone.2.1 183 = .ok (.iastore, 1) := by decide +kernel
theorem dX10_readsStone_184 : decode t_X10_readsStone.2.1 184 = .ok (.goto 30, 3) := by decide +kernel
theorem dX10_readsStone_187 : decode t_X10_readsStone.2.1 187 = .ok (.aload_n 0, 1) := by decide +kernel
theorem dX10_readsStone_188 : decode t_X10_readsStone.2.1 188 = .ok (.iload_n 1, 1) := by decide +kernel
theorem dX10_readsStone_189 : decode t_X10_readsStone.2.1 189 = .ok (.bipush 97, 2) := by decide +kernel
theorem dX10_readsStone_191 : decode t_X10_readsStone.2.1 191 = .ok (.bipush 104, 2) := by decide +kernel
theorem dX10_readsStone_193 : decode t_X10_readsStone.2.1 193 = .ok (.invokevirtual 134, 3) := by decide +kernel
theorem iX10_readsStone_193 : wm_iv t_X10_readsStone t_X10_sign 193 := ⟨134, wd_1329, dX10_readsStone_193⟩
theorem dX10_readsStone_196 : decode t_X10_readsStone.2.1 196 = .ok (.ifCond .ne 5, 3) := by decide +kernel
theorem dX10_readsStone_199 : decode t_X10_readsStone.2.1 199 = .ok (.iconst 0, 1) := by decide +kernel
theorem dX10_readsStone_200 : decode t_X10_readsStone.2.1 200 = .ok (.ireturn, 1) := by decide +kernel
theorem dX10_readsStone_201 : decode t_X10_readsStone.2.1 201 = .ok (.aload_n 0, 1) := by decide +kernel
theorem dX10_readsStone_202 : decode t_X10_readsStone.2.1 202 = .ok (.getfield 44, 3) := by decide +kernel
theorem gX10_readsStone_202 : wm_gf t_X10_readsStone 202 10 24 := ⟨_, _, _, 44, rfl, by decide, wd_1138, dX10_readsStone_202⟩
theorem dX10_readsStone_205 : decode t_X10_readsStone.2.1 205 = .ok (.iload_n 3, 1) := by decide +kernel
theorem dX10_readsStone_206 : decode t_X10_readsStone.2.1 206 = .ok (.bipush 6, 2) := by decide +kernel
theorem dX10_readsStone_208 : decode t_X10_readsStone.2.1 208 = .ok (.iadd, 1) := by decide +kernel
theorem dX10_readsStone_209 : decode t_X10_readsStone.2.1 209 = .ok (.aload_n 0, 1) := by decide +kernel
theorem dX10_readsStone_210 : decode t_X10_readsStone.2.1 210 = .ok (.getfield 131, 3) := by decide +kernel
theorem gX10_readsStone_210 : wm_gf t_X10_readsStone 210 10 20 := ⟨_, _, _, 131, rfl, by decide, wd_1134, dX10_readsStone_210⟩
theorem dX10_readsStone_213 : decode t_X10_readsStone.2.1 213 = .ok (.iastore, 1) := by decide +kernel
theorem dX10_readsStone_214 : decode t_X10_readsStone.2.1 214 = .ok (.aload_n 0, 1) := by decide +kernel
theorem dX10_readsStone_215 : decode t_X10_readsStone.2.1 215 = .ok (.dup, 1) := by decide +kernel
theorem dX10_readsStone_216 : decode t_X10_readsStone.2.1 216 = .ok (.getfield 146, 3) := by decide +kernel
theorem gX10_readsStone_216 : wm_gf t_X10_readsStone 216 10 23 := ⟨_, _, _, 146, rfl, by decide, wd_1137, dX10_readsStone_216⟩
theorem dX10_readsStone_219 : decode t_X10_readsStone.2.1 219 = .ok (.iconst 1, 1) := by decide +kernel
theorem dX10_readsStone_220 : decode t_X10_readsStone.2.1 220 = .ok (.iadd, 1) := by decide +kernel
theorem dX10_readsStone_221 : decode t_X10_readsStone.2.1 221 = .ok (.putfield 146, 3) := by decide +kernel
theorem gX10_readsStone_221 : wm_pf t_X10_readsStone 221 10 23 .int := ⟨_, _, _, 146, rfl, by decide, wd_1137, dX10_readsStone_221, rfl, by decide +kernel⟩
theorem dX10_readsStone_224 : decode t_X10_readsStone.2.1 224 = .ok (.iconst 1, 1) := by decide +kernel
theorem dX10_readsStone_225 : decode t_X10_readsStone.2.1 225 = .ok (.ireturn, 1) := by decide +kernel
theorem wd_1320 : Cond.code yX10_faultOf cX10_faultOf 2 (some .int) ∈ lw_gd := List.mem_filter.mpr ⟨List.mem_of_getElem? (i := 1320) (by decide +kernel), by decide +kernel⟩
theorem wd_1319 : Cond.instanceMethod yX10_faultOf ∈ lw_gd := List.mem_filter.mpr ⟨List.mem_of_getElem? (i := 1319) (by decide +kernel), by decide +kernel⟩
theorem wd_37 : Cond.selects RX10 yX10_faultOf yX10_faultOf ∈ lw_gd := List.mem_filter.mpr ⟨List.mem_of_getElem? (i := 37) (by decide +kernel), by decide +kernel⟩
theorem vX10_faultOf : wm_calV t_X10_faultOf 1 := ⟨⟨wd_1320, wd_88, by decide +kernel, by decide +kernel, by decide +kernel⟩, wd_1319, wd_37⟩
theorem dX10_faultOf_0 : decode t_X10_faultOf.2.1 0 = .ok (.aload_n 0, 1) := by decide +kernel
theorem dX10_faultOf_1 : decode t_X10_faultOf.2.1 1 = .ok (.iconst 0, 1) := by decide +kernel
theorem dX10_faultOf_2 : decode t_X10_faultOf.2.1 2 = .ok (.putfield 125, 3) := by decide +kernel
theorem gX10_faultOf_2 : wm_pf t_X10_faultOf 2 10 19 .int := ⟨_, _, _, 125, rfl, by decide, wd_1133, dX10_faultOf_2, rfl, by decide +kernel⟩
theorem dX10_faultOf_5 : decode t_X10_faultOf.2.1 5 = .ok (.aload_n 0, 1) := by decide +kernel
theorem dX10_faultOf_6 : decode t_X10_faultOf.2.1 6 = .ok (.iconst 0, 1) := by decide +kernel
theorem dX10_faultOf_7 : decode t_X10_faultOf.2.1 7 = .ok (.putfield 137, 3) := by decide +kernel
theorem gX10_faultOf_7 : wm_pf t_X10_faultOf 7 10 21 .int := ⟨_, _, _, 137, rfl, by decide, wd_1135, dX10_faultOf_7, rfl, by decide +kernel⟩
theorem dX10_faultOf_10 : decode t_X10_faultOf.2.1 10 = .ok (.aload_n 0, 1) := by decide +kernel
theorem dX10_faultOf_11 : decode t_X10_faultOf.2.1 11 = .ok (.iconst 0, 1) := by decide +kernel
theorem dX10_faultOf_12 : decode t_X10_faultOf.2.1 12 = .ok (.putfield 140, 3) := by decide +kernel
theorem gX10_faultOf_12 : wm_pf t_X10_faultOf 12 10 22 .int := ⟨_, _, _, 140, rfl, by decide, wd_1136, dX10_faultOf_12, rfl, by decide +kernel⟩
theorem dX10_faultOf_15 : decode t_X10_faultOf.2.1 15 = .ok (.aload_n 0, 1) := by decide +kernel
theorem dX10_faultOf_16 : decode t_X10_faultOf.2.1 16 = .ok (.iconst 0, 1) := by decide +kernel
theorem dX10_faultOf_17 : decode t_X10_faultOf.2.1 17 = .ok (.putfield 146, 3) := by decide +kernel
theorem gX10_faultOf_17 : wm_pf t_X10_faultOf 17 10 23 .int := ⟨_, _, _, 146, rfl, by decide, wd_1137, dX10_faultOf_17, rfl, by decide +kernel⟩
theorem dX10_faultOf_20 : decode t_X10_faultOf.2.1 20 = .ok (.aload_n 0, 1) := by decide +kernel
theorem dX10_faultOf_21 : decode t_X10_faultOf.2.1 21 = .ok (.getfield 125, 3) := by decide +kernel
theorem gX10_faultOf_21 : wm_gf t_X10_faultOf 21 10 19 := ⟨_, _, _, 125, rfl, by decide, wd_1133, dX10_faultOf_21⟩
theorem dX10_faultOf_24 : decode t_X10_faultOf.2.1 24 = .ok (.aload_n 0, 1) := by decide +kernel
theorem dX10_faultOf_25 : decode t_X10_faultOf.2.1 25 = .ok (.getfield 22, 3) := by decide +kernel
theorem gX10_faultOf_25 : wm_gf t_X10_faultOf 25 10 8 := ⟨_, _, _, 22, rfl, by decide, wd_1122, dX10_faultOf_25⟩
theorem dX10_faultOf_28 : decode t_X10_faultOf.2.1 28 = .ok (.iload_n 1, 1) := by decide +kernel
theorem dX10_faultOf_29 : decode t_X10_faultOf.2.1 29 = .ok (.iaload, 1) := by decide +kernel
theorem dX10_faultOf_30 : decode t_X10_faultOf.2.1 30 = .ok (.if_icmp .ge 61, 3) := by decide +kernel
theorem dX10_faultOf_33 : decode t_X10_faultOf.2.1 33 = .ok (.aload_n 0, 1) := by decide +kernel
theorem dX10_faultOf_34 : decode t_X10_faultOf.2.1 34 = .ok (.iload_n 1, 1) := by decide +kernel
theorem dX10_faultOf_35 : decode t_X10_faultOf.2.1 35 = .ok (.aload_n 0, 1) := by decide +kernel
theorem dX10_faultOf_36 : decode t_X10_faultOf.2.1 36 = .ok (.getfield 125, 3) := by decide +kernel
theorem gX10_faultOf_36 : wm_gf t_X10_faultOf 36 10 19 := ⟨_, _, _, 125, rfl, by decide, wd_1133, dX10_faultOf_36⟩
theorem dX10_faultOf_39 : decode t_X10_faultOf.2.1 39 = .ok (.invokevirtual 128, 3) := by decide +kernel
theorem iX10_faultOf_39 : wm_iv t_X10_faultOf t_X10_byteAt 39 := ⟨128, wd_1321, dX10_faultOf_39⟩
theorem dX10_faultOf_42 : decode t_X10_faultOf.2.1 42 = .ok (.bipush 32, 2) := by decide +kernel
theorem dX10_faultOf_44 : decode t_X10_faultOf.2.1 44 = .ok (.if_icmp .ne 16, 3) := by decide +kernel
theorem dX10_faultOf_47 : decode t_X10_faultOf.2.1 47 = .ok (.aload_n 0, 1) := by decide +kernel
theorem dX10_faultOf_48 : decode t_X10_faultOf.2.1 48 = .ok (.dup, 1) := by decide +kernel
theorem dX10_faultOf_49 : decode t_X10_faultOf.2.1 49 = .ok (.getfield 125, 3) := by decide +kernel
theorem gX10_faultOf_49 : wm_gf t_X10_faultOf 49 10 19 := ⟨_, _, _, 125, rfl, by decide, wd_1133, dX10_faultOf_49⟩
theorem dX10_faultOf_52 : decode t_X10_faultOf.2.1 52 = .ok (.iconst 1, 1) := by decide +kernel
theorem dX10_faultOf_53 : decode t_X10_faultOf.2.1 53 = .ok (.iadd, 1) := by decide +kernel
theorem dX10_faultOf_54 : decode t_X10_faultOf.2.1 54 = .ok (.putfield 125, 3) := by decide +kernel
theorem gX10_faultOf_54 : wm_pf t_X10_faultOf 54 10 19 .int := ⟨_, _, _, 125, rfl, by decide, wd_1133, dX10_faultOf_54, rfl, by decide +kernel⟩
theorem dX10_faultOf_57 : decode t_X10_faultOf.2.1 57 = .ok (.goto (-37), 3) := by decide +kernel
theorem dX10_faultOf_60 : decode t_X10_faultOf.2.1 60 = .ok (.aload_n 0, 1) := by decide +kernel
theorem dX10_faultOf_61 : decode t_X10_faultOf.2.1 61 = .ok (.getfield 137, 3) := by decide +kernel
theorem gX10_faultOf_61 : wm_gf t_X10_faultOf 61 10 21 := ⟨_, _, _, 137, rfl, by decide, wd_1135, dX10_faultOf_61⟩
theorem dX10_faultOf_64 : decode t_X10_faultOf.2.1 64 = .ok (.ifCond .ne 14, 3) := by decide +kernel
theorem dX10_faultOf_67 : decode t_X10_faultOf.2.1 67 = .ok (.aload_n 0, 1) := by decide +kernel
theorem dX10_faultOf_68 : decode t_X10_faultOf.2.1 68 = .ok (.iload_n 1, 1) := by decide +kernel
theorem dX10_faultOf_69 : decode t_X10_faultOf.2.1 69 = .ok (.invokevirtual 149, 3) := by decide +kernel
theorem wd_1325 : Cond.methodLink RX10 149 yX10_readsGrid ∈ lw_gd := List.mem_filter.mpr ⟨List.mem_of_getElem? (i := 1325) (by decide +kernel), by decide +kernel⟩
theorem iX10_faultOf_69 : wm_iv t_X10_faultOf t_X10_readsGrid 69 := ⟨149, wd_1325, dX10_faultOf_69⟩
theorem dX10_faultOf_72 : decode t_X10_faultOf.2.1 72 = .ok (.ifCond .eq 14, 3) := by decide +kernel
theorem dX10_faultOf_75 : decode t_X10_faultOf.2.1 75 = .ok (.goto (-55), 3) := by decide +kernel
theorem dX10_faultOf_78 : decode t_X10_faultOf.2.1 78 = .ok (.aload_n 0, 1) := by decide +kernel
theorem dX10_faultOf_79 : decode t_X10_faultOf.2.1 79 = .ok (.iload_n 1, 1) := by decide +kernel
theorem dX10_faultOf_80 : decode t_X10_faultOf.2.1 80 = .ok (.invokevirtual 152, 3) := by decide +kernel
theorem wd_1333 : Cond.methodLink RX10 152 yX10_readsStone ∈ lw_gd := List.mem_filter.mpr ⟨List.mem_of_getElem? (i := 1333) (by decide +kernel), by decide +kernel⟩
theorem iX10_faultOf_80 : wm_iv t_X10_faultOf t_X10_readsStone 80 := ⟨152, wd_1333, dX10_faultOf_80⟩
theorem dX10_faultOf_83 : decode t_X10_faultOf.2.1 83 = .ok (.ifCond .ne (-63), 3) := by decide +kernel
theorem dX10_faultOf_86 : decode t_X10_faultOf.2.1 86 = .ok (.aload_n 0, 1) := by decide +kernel
theorem dX10_faultOf_87 : decode t_X10_faultOf.2.1 87 = .ok (.getfield 125, 3) := by decide +kernel
theorem gX10_faultOf_87 : wm_gf t_X10_faultOf 87 10 19 := ⟨_, _, _, 125, rfl, by decide, wd_1133, dX10_faultOf_87⟩
theorem dX10_faultOf_90 : decode t_X10_faultOf.2.1 90 = .ok (.ireturn, 1) := by decide +kernel
theorem dX10_faultOf_91 : decode t_X10_faultOf.2.1 91 = .ok (.aload_n 0, 1) := by decide +kernel
theorem dX10_faultOf_92 : decode t_X10_faultOf.2.1 92 = .ok (.getfield 137, 3) := by decide +kernel
theorem gX10_faultOf_92 : wm_gf t_X10_faultOf 92 10 21 := ⟨_, _, _, 137, rfl, by decide, wd_1135, dX10_faultOf_92⟩
theorem dX10_faultOf_95 : decode t_X10_faultOf.2.1 95 = .ok (.ifCond .eq 19, 3) := by decide +kernel
theorem dX10_faultOf_98 : decode t_X10_faultOf.2.1 98 = .ok (.aload_n 0, 1) := by decide +kernel
theorem dX10_faultOf_99 : decode t_X10_faultOf.2.1 99 = .ok (.getfield 146, 3) := by decide +kernel
theorem gX10_faultOf_99 : wm_gf t_X10_faultOf 99 10 23 := ⟨_, _, _, 146, rfl, by decide, wd_1137, dX10_faultOf_99⟩
theorem dX10_faultOf_102 : decode t_X10_faultOf.2.1 102 = .ok (.aload_n 0, 1) := by decide +kernel
theorem dX10_faultOf_103 : decode t_X10_faultOf.2.1 103 = .ok (.getfield 137, 3) := by decide +kernel
theorem gX10_faultOf_103 : wm_gf t_X10_faultOf 103 10 21 := ⟨_, _, _, 137, rfl, by decide, wd_1135, dX10_faultOf_103⟩
theorem dX10_faultOf_106 : decode t_X10_faultOf.2.1 106 = .ok (.aload_n 0, 1) := by decide +kernel
theorem dX10_faultOf_107 : decode t_X10_faultOf.2.1 107 = .ok (.getfield 140, 3) := by decide +kernel
theorem gX10_faultOf_107 : wm_gf t_X10_faultOf 107 10 22 := ⟨_, _, _, 140, rfl, by decide, wd_1136, dX10_faultOf_107⟩
theorem dX10_faultOf_110 : decode t_X10_faultOf.2.1 110 = .ok (.imul, 1) := by decide +kernel
theorem dX10_faultOf_111 : decode t_X10_faultOf.2.1 111 = .ok (.if_icmp .ge 12, 3) := by decide +kernel
theorem dX10_faultOf_114 : decode t_X10_faultOf.2.1 114 = .ok (.aload_n 0, 1) := by decide +kernel
theorem dX10_faultOf_115 : decode t_X10_faultOf.2.1 115 = .ok (.getfield 22, 3) := by decide +kernel
theorem gX10_faultOf_115 : wm_gf t_X10_faultOf 115 10 8 := ⟨_, _, _, 22, rfl, by decide, wd_1122, dX10_faultOf_115⟩
theorem dX10_faultOf_118 : decode t_X10_faultOf.2.1 118 = .ok (.iload_n 1, 1) := by decide +kernel
theorem dX10_faultOf_119 : decode t_X10_faultOf.2.1 119 = .ok (.iaload, 1) := by decide +kernel
theorem dX10_faultOf_120 : decode t_X10_faultOf.2.1 120 = .ok (.goto 5, 3) := by decide +kernel
theorem dX10_faultOf_123 : decode t_X10_faultOf.2.1 123 = .ok (.bipush (-9), 2) := by decide +kernel
theorem dX10_faultOf_125 : decode t_X10_faultOf.2.1 125 = .ok (.ireturn, 1) := by decide +kernel
theorem wd_1316 : Cond.code yX10_fault cX10_fault 2 (some .int) ∈ lw_gd := List.mem_filter.mpr ⟨List.mem_of_getElem? (i := 1316) (by decide +kernel), by decide +kernel⟩
theorem wd_1314 : Cond.instanceMethod yX10_fault ∈ lw_gd := List.mem_filter.mpr ⟨List.mem_of_getElem? (i := 1314) (by decide +kernel), by decide +kernel⟩
theorem wd_1315 : Cond.selects RX10 yX10_fault yX10_fault ∈ lw_gd := List.mem_filter.mpr ⟨List.mem_of_getElem? (i := 1315) (by decide +kernel), by decide +kernel⟩
theorem vX10_fault : wm_calV t_X10_fault 1 := ⟨⟨wd_1316, wd_88, by decide +kernel, by decide +kernel, by decide +kernel⟩, wd_1314, wd_1315⟩
theorem dX10_fault_0 : decode t_X10_fault.2.1 0 = .ok (.iload_n 1, 1) := by decide +kernel
theorem dX10_fault_1 : decode t_X10_fault.2.1 1 = .ok (.invokestatic 122, 3) := by decide +kernel
theorem iX10_fault_1 : wm_is t_X10_fault t_X10_isText 1 := ⟨122, wd_1306, dX10_fault_1⟩
theorem dX10_fault_4 : decode t_X10_fault.2.1 4 = .ok (.ifCond .ne 5, 3) := by decide +kernel
theorem dX10_fault_7 : decode t_X10_fault.2.1 7 = .ok (.iconst (-1), 1) := by decide +kernel
theorem dX10_fault_8 : decode t_X10_fault.2.1 8 = .ok (.ireturn, 1) := by decide +kernel
theorem dX10_fault_9 : decode t_X10_fault.2.1 9 = .ok (.aload_n 0, 1) := by decide +kernel
theorem dX10_fault_10 : decode t_X10_fault.2.1 10 = .ok (.getfield 22, 3) := by decide +kernel
theorem gX10_fault_10 : wm_gf t_X10_fault 10 10 8 := ⟨_, _, _, 22, rfl, by decide, wd_1122, dX10_fault_10⟩
theorem dX10_fault_13 : decode t_X10_fault.2.1 13 = .ok (.iload_n 1, 1) := by decide +kernel
theorem dX10_fault_14 : decode t_X10_fault.2.1 14 = .ok (.iaload, 1) := by decide +kernel
theorem dX10_fault_15 : decode t_X10_fault.2.1 15 = .ok (.ifCond .ge 11, 3) := by decide +kernel
theorem dX10_fault_18 : decode t_X10_fault.2.1 18 = .ok (.aload_n 0, 1) := by decide +kernel
theorem dX10_fault_19 : decode t_X10_fault.2.1 19 = .ok (.iconst 1, 1) := by decide +kernel
theorem dX10_fault_20 : decode t_X10_fault.2.1 20 = .ok (.invokevirtual 111, 3) := by decide +kernel
theorem iX10_fault_20 : wm_iv t_X10_fault t_X10_meets 20 := ⟨111, wd_1270, dX10_fault_20⟩
theorem dX10_fault_23 : decode t_X10_fault.2.1 23 = .ok (.goto 8, 3) := by decide +kernel
theorem dX10_fault_26 : decode t_X10_fault.2.1 26 = .ok (.aload_n 0, 1) := by decide +kernel
theorem dX10_fault_27 : decode t_X10_fault.2.1 27 = .ok (.iload_n 1, 1) := by decide +kernel
theorem dX10_fault_28 : decode t_X10_fault.2.1 28 = .ok (.invokevirtual 155, 3) := by decide +kernel
theorem wd_1317 : Cond.methodLink RX10 155 yX10_faultOf ∈ lw_gd := List.mem_filter.mpr ⟨List.mem_of_getElem? (i := 1317) (by decide +kernel), by decide +kernel⟩
theorem iX10_fault_28 : wm_iv t_X10_fault t_X10_faultOf 28 := ⟨155, wd_1317, dX10_fault_28⟩
theorem dX10_fault_31 : decode t_X10_fault.2.1 31 = .ok (.ireturn, 1) := by decide +kernel
theorem wd_1343 : Cond.code yX10_town cX10_town 4 (some .int) ∈ lw_gd := List.mem_filter.mpr ⟨List.mem_of_getElem? (i := 1343) (by decide +kernel), by decide +kernel⟩
theorem wd_1341 : Cond.instanceMethod yX10_town ∈ lw_gd := List.mem_filter.mpr ⟨List.mem_of_getElem? (i := 1341) (by decide +kernel), by decide +kernel⟩
theorem wd_1342 : Cond.selects RX10 yX10_town yX10_town ∈ lw_gd := List.mem_filter.mpr ⟨List.mem_of_getElem? (i := 1342) (by decide +kernel), by decide +kernel⟩
theorem vX10_town : wm_calV t_X10_town 1 := ⟨⟨wd_1343, wd_88, by decide +kernel, by decide +kernel, by decide +kernel⟩, wd_1341, wd_1342⟩
theorem dX10_town_0 : decode t_X10_town.2.1 0 = .ok (.iload_n 1, 1) := by decide +kernel
theorem dX10_town_1 : decode t_X10_town.2.1 1 = .ok (.invokestatic 122, 3) := by decide +kernel
theorem iX10_town_1 : wm_is t_X10_town t_X10_isText 1 := ⟨122, wd_1306, dX10_town_1⟩
theorem dX10_town_4 : decode t_X10_town.2.1 4 = .ok (.ifCond .ne 5, 3) := by decide +kernel
theorem dX10_town_7 : decode t_X10_town.2.1 7 = .ok (.iconst (-1), 1) := by decide +kernel
theorem dX10_town_8 : decode t_X10_town.2.1 8 = .ok (.ireturn, 1) := by decide +kernel
theorem dX10_town_9 : decode t_X10_town.2.1 9 = .ok (.aload_n 0, 1) := by decide +kernel
theorem dX10_town_10 : decode t_X10_town.2.1 10 = .ok (.getfield 22, 3) := by decide +kernel
theorem gX10_town_10 : wm_gf t_X10_town 10 10 8 := ⟨_, _, _, 22, rfl, by decide, wd_1122, dX10_town_10⟩
theorem dX10_town_13 : decode t_X10_town.2.1 13 = .ok (.iload_n 1, 1) := by decide +kernel
theorem dX10_town_14 : decode t_X10_town.2.1 14 = .ok (.iaload, 1) := by decide +kernel
theorem dX10_town_15 : decode t_X10_town.2.1 15 = .ok (.ifCond .ge 9, 3) := by decide +kernel
theorem dX10_town_18 : decode t_X10_town.2.1 18 = .ok (.aload_n 0, 1) := by decide +kernel
theorem dX10_town_19 : decode t_X10_town.2.1 19 = .ok (.iconst 1, 1) := by decide +kernel
theorem dX10_town_20 : decode t_X10_town.2.1 20 = .ok (.invokevirtual 111, 3) := by decide +kernel
theorem iX10_town_20 : wm_iv t_X10_town t_X10_meets 20 := ⟨111, wd_1270, dX10_town_20⟩
theorem dX10_town_23 : decode t_X10_town.2.1 23 = .ok (.ireturn, 1) := by decide +kernel
theorem dX10_town_24 : decode t_X10_town.2.1 24 = .ok (.aload_n 0, 1) := by decide +kernel
theorem dX10_town_25 : decode t_X10_town.2.1 25 = .ok (.iload_n 1, 1) := by decide +kernel
theorem dX10_town_26 : decode t_X10_town.2.1 26 = .ok (.invokevirtual 155, 3) := by decide +kernel
theorem iX10_town_26 : wm_iv t_X10_town t_X10_faultOf 26 := ⟨155, wd_1317, dX10_town_26⟩
theorem dX10_town_29 : decode t_X10_town.2.1 29 = .ok (.bipush (-9), 2) := by decide +kernel
theorem dX10_town_31 : decode t_X10_town.2.1 31 = .ok (.if_icmp .eq 6, 3) := by decide +kernel
theorem dX10_town_34 : decode t_X10_town.2.1 34 = .ok (.bipush (-4), 2) := by decide +kernel
theorem dX10_town_36 : decode t_X10_town.2.1 36 = .ok (.ireturn, 1) := by decide +kernel
theorem dX10_town_37 : decode t_X10_town.2.1 37 = .ok (.aload_n 0, 1) := by decide +kernel
theorem dX10_town_38 : decode t_X10_town.2.1 38 = .ok (.aload_n 0, 1) := by decide +kernel
theorem dX10_town_39 : decode t_X10_town.2.1 39 = .ok (.getfield 137, 3) := by decide +kernel
theorem gX10_town_39 : wm_gf t_X10_town 39 10 21 := ⟨_, _, _, 137, rfl, by decide, wd_1135, dX10_town_39⟩
theorem dX10_town_42 : decode t_X10_town.2.1 42 = .ok (.putfield 158, 3) := by decide +kernel
theorem wd_1124 : Cond.fieldLink RX10 158 "TurnedStonesModel" "wide" "I" ∈ lw_gd := List.mem_filter.mpr ⟨List.mem_of_getElem? (i := 1124) (by decide +kernel), by decide +kernel⟩
theorem gX10_town_42 : wm_pf t_X10_town 42 10 10 .int := ⟨_, _, _, 158, rfl, by decide, wd_1124, dX10_town_42, rfl, by decide +kernel⟩
theorem dX10_town_45 : decode t_X10_town.2.1 45 = .ok (.aload_n 0, 1) := by decide +kernel
theorem dX10_town_46 : decode t_X10_town.2.1 46 = .ok (.aload_n 0, 1) := by decide +kernel
theorem dX10_town_47 : decode t_X10_town.2.1 47 = .ok (.getfield 140, 3) := by decide +kernel
theorem gX10_town_47 : wm_gf t_X10_town 47 10 22 := ⟨_, _, _, 140, rfl, by decide, wd_1136, dX10_town_47⟩
theorem dX10_town_50 : decode t_X10_town.2.1 50 = .ok (.putfield 161, 3) := by decide +kernel
theorem wd_1125 : Cond.fieldLink RX10 161 "TurnedStonesModel" "high" "I" ∈ lw_gd := List.mem_filter.mpr ⟨List.mem_of_getElem? (i := 1125) (by decide +kernel), by decide +kernel⟩
theorem gX10_town_50 : wm_pf t_X10_town 50 10 11 .int := ⟨_, _, _, 161, rfl, by decide, wd_1125, dX10_town_50, rfl, by decide +kernel⟩
theorem dX10_town_53 : decode t_X10_town.2.1 53 = .ok (.aload_n 0, 1) := by decide +kernel
theorem dX10_town_54 : decode t_X10_town.2.1 54 = .ok (.aload_n 0, 1) := by decide +kernel
theorem dX10_town_55 : decode t_X10_town.2.1 55 = .ok (.getfield 146, 3) := by decide +kernel
theorem gX10_town_55 : wm_gf t_X10_town 55 10 23 := ⟨_, _, _, 146, rfl, by decide, wd_1137, dX10_town_55⟩
theorem dX10_town_58 : decode t_X10_town.2.1 58 = .ok (.putfield 164, 3) := by decide +kernel
theorem wd_1126 : Cond.fieldLink RX10 164 "TurnedStonesModel" "n" "I" ∈ lw_gd := List.mem_filter.mpr ⟨List.mem_of_getElem? (i := 1126) (by decide +kernel), by decide +kernel⟩
theorem gX10_town_58 : wm_pf t_X10_town 58 10 12 .int := ⟨_, _, _, 164, rfl, by decide, wd_1126, dX10_town_58, rfl, by decide +kernel⟩
theorem dX10_town_61 : decode t_X10_town.2.1 61 = .ok (.iconst 0, 1) := by decide +kernel
theorem dX10_town_62 : decode t_X10_town.2.1 62 = .ok (.istore_n 2, 1) := by decide +kernel
theorem dX10_town_63 : decode t_X10_town.2.1 63 = .ok (.iload_n 2, 1) := by decide +kernel
theorem dX10_town_64 : decode t_X10_town.2.1 64 = .ok (.aload_n 0, 1) := by decide +kernel
theorem dX10_town_65 : decode t_X10_town.2.1 65 = .ok (.getfield 164, 3) := by decide +kernel
theorem gX10_town_65 : wm_gf t_X10_town 65 10 12 := ⟨_, _, _, 164, rfl, by decide, wd_1126, dX10_town_65⟩
theorem dX10_town_68 : decode t_X10_town.2.1 68 = .ok (.if_icmp .ge 102, 3) := by decide +kernel
theorem dX10_town_71 : decode t_X10_town.2.1 71 = .ok (.aload_n 0, 1) := by decide +kernel
theorem dX10_town_72 : decode t_X10_town.2.1 72 = .ok (.getfield 29, 3) := by decide +kernel
theorem wd_1127 : Cond.fieldLink RX10 29 "TurnedStonesModel" "kinds" "[I" ∈ lw_gd := List.mem_filter.mpr ⟨List.mem_of_getElem? (i := 1127) (by decide +kernel), by decide +kernel⟩
theorem gX10_town_72 : wm_gf t_X10_town 72 10 13 := ⟨_, _, _, 29, rfl, by decide, wd_1127, dX10_town_72⟩
theorem dX10_town_75 : decode t_X10_town.2.1 75 = .ok (.iload_n 2, 1) := by decide +kernel
theorem dX10_town_76 : decode t_X10_town.2.1 76 = .ok (.aload_n 0, 1) := by decide +kernel
theorem dX10_town_77 : decode t_X10_town.2.1 77 = .ok (.getfield 44, 3) := by decide +kernel
theorem gX10_town_77 : wm_gf t_X10_town 77 10 24 := ⟨_, _, _, 44, rfl, by decide, wd_1138, dX10_town_77⟩
theorem dX10_town_80 : decode t_X10_town.2.1 80 = .ok (.bipush 7, 2) := by decide +kernel
theorem dX10_town_82 : decode t_X10_town.2.1 82 = .ok (.iload_n 2, 1) := by decide +kernel
theorem dX10_town_83 : decode t_X10_town.2.1 83 = .ok (.imul, 1) := by decide +kernel
theorem dX10_town_84 : decode t_X10_town.2.1 84 = .ok (.iaload, 1) := by decide +kernel
theorem dX10_town_85 : decode t_X10_town.2.1 85 = .ok (.iastore, 1) := by decide +kernel
theorem dX10_town_86 : decode t_X10_town.2.1 86 = .ok (.iconst 0, 1) := by decide +kernel
theorem dX10_town_87 : decode t_X10_town.2.1 87 = .ok (.istore_n 3, 1) := by decide +kernel
theorem dX10_town_88 : decode t_X10_town.2.1 88 = .ok (.iload_n 3, 1) := by decide +kernel
theorem dX10_town_89 : decode t_X10_town.2.1 89 = .ok (.iconst 4, 1) := by decide +kernel
theorem dX10_town_90 : decode t_X10_town.2.1 90 = .ok (.if_icmp .ge 32, 3) := by decide +kernel
theorem dX10_town_93 : decode t_X10_town.2.1 93 = .ok (.aload_n 0, 1) := by decide +kernel
theorem dX10_town_94 : decode t_X10_town.2.1 94 = .ok (.getfield 32, 3) := by decide +kernel
theorem wd_1128 : Cond.fieldLink RX10 32 "TurnedStonesModel" "words" "[I" ∈ lw_gd := List.mem_filter.mpr ⟨List.mem_of_getElem? (i := 1128) (by decide +kernel), by decide +kernel⟩
theorem gX10_town_94 : wm_gf t_X10_town 94 10 14 := ⟨_, _, _, 32, rfl, by decide, wd_1128, dX10_town_94⟩
theorem dX10_town_97 : decode t_X10_town.2.1 97 = .ok (.iconst 4, 1) := by decide +kernel
theorem dX10_town_98 : decode t_X10_town.2.1 98 = .ok (.iload_n 2, 1) := by decide +kernel
theorem dX10_town_99 : decode t_X10_town.2.1 99 = .ok (.imul, 1) := by decide +kernel
theorem dX10_town_100 : decode t_X10_town.2.1 100 = .ok (.iload_n 3, 1) := by decide +kernel
theorem dX10_town_101 : decode t_X10_town.2.1 101 = .ok (.iadd, 1) := by decide +kernel
theorem dX10_town_102 : decode t_X10_town.2.1 102 = .ok (.aload_n 0, 1) := by decide +kernel
theorem dX10_town_103 : decode t_X10_town.2.1 103 = .ok (.getfield 44, 3) := by decide +kernel
theorem gX10_town_103 : wm_gf t_X10_town 103 10 24 := ⟨_, _, _, 44, rfl, by decide, wd_1138, dX10_town_103⟩
theorem dX10_town_106 : decode t_X10_town.2.1 106 = .ok (.bipush 7, 2) := by decide +kernel
theorem dX10_town_108 : decode t_X10_town.2.1 108 = .ok (.iload_n 2, 1) := by decide +kernel
theorem dX10_town_109 : decode t_X10_town.2.1 109 = .ok (.imul, 1) := by decide +kernel
theorem dX10_town_110 : decode t_X10_town.2.1 110 = .ok (.iconst 1, 1) := by decide +kernel
theorem dX10_town_111 : decode t_X10_town.2.1 111 = .ok (.iadd, 1) := by decide +kernel
theorem dX10_town_112 : decode t_X10_town.2.1 112 = .ok (.iload_n 3, 1) := by decide +kernel
theorem dX10_town_113 : decode t_X10_town.2.1 113 = .ok (.iadd, 1) := by decide +kernel
theorem dX10_town_114 : decode t_X10_town.2.1 114 = .ok (.iaload, 1) := by decide +kernel
theorem dX10_town_115 : decode t_X10_town.2.1 115 = .ok (.iastore, 1) := by decide +kernel
theorem dX10_town_116 : decode t_X10_town.2.1 116 = .ok (.iinc 3 1, 3) := by decide +kernel
theorem dX10_town_119 : decode t_X10_town.2.1 119 = .ok (.goto (-31), 3) := by decide +kernel
theorem dX10_town_122 : decode t_X10_town.2.1 122 = .ok (.aload_n 0, 1) := by decide +kernel
theorem dX10_town_123 : decode t_X10_town.2.1 123 = .ok (.getfield 35, 3) := by decide +kernel
theorem wd_1129 : Cond.fieldLink RX10 35 "TurnedStonesModel" "wornSide" "[I" ∈ lw_gd := List.mem_filter.mpr ⟨List.mem_of_getElem? (i := 1129) (by decide +kernel), by decide +kernel⟩
theorem gX10_town_123 : wm_gf t_X10_town 123 10 15 := ⟨_, _, _, 35, rfl, by decide, wd_1129, dX10_town_123⟩
theorem dX10_town_126 : decode t_X10_town.2.1 126 = .ok (.iload_n 2, 1) := by decide +kernel
theorem dX10_town_127 : decode t_X10_town.2.1 127 = .ok (.aload_n 0, 1) := by decide +kernel
theorem dX10_town_128 : decode t_X10_town.2.1 128 = .ok (.getfield 44, 3) := by decide +kernel
theorem gX10_town_128 : wm_gf t_X10_town 128 10 24 := ⟨_, _, _, 44, rfl, by decide, wd_1138, dX10_town_128⟩
theorem dX10_town_131 : decode t_X10_town.2.1 131 = .ok (.bipush 7, 2) := by decide +kernel
theorem dX10_town_133 : decode t_X10_town.2.1 133 = .ok (.iload_n 2, 1) := by decide +kernel
theorem dX10_town_134 : decode t_X10_town.2.1 134 = .ok (.imul, 1) := by decide +kernel
theorem dX10_town_135 : decode t_X10_town.2.1 135 = .ok (.iconst 5, 1) := by decide +kernel
theorem dX10_town_136 : decode t_X10_town.2.1 136 = .ok (.iadd, 1) := by decide +kernel
theorem dX10_town_137 : decode t_X10_town.2.1 137 = .ok (.iaload, 1) := by decide +kernel
theorem dX10_town_138 : decode t_X10_town.2.1 138 = .ok (.iastore, 1) := by decide +kernel
theorem dX10_town_139 : decode t_X10_town.2.1 139 = .ok (.aload_n 0, 1) := by decide +kernel
theorem dX10_town_140 : decode t_X10_town.2.1 140 = .ok (.getfield 38, 3) := by decide +kernel
theorem wd_1130 : Cond.fieldLink RX10 38 "TurnedStonesModel" "wornWord" "[I" ∈ lw_gd := List.mem_filter.mpr ⟨List.mem_of_getElem? (i := 1130) (by decide +kernel), by decide +kernel⟩
theorem gX10_town_140 : wm_gf t_X10_town 140 10 16 := ⟨_, _, _, 38, rfl, by decide, wd_1130, dX10_town_140⟩
theorem dX10_town_143 : decode t_X10_town.2.1 143 = .ok (.iload_n 2, 1) := by decide +kernel
theorem dX10_town_144 : decode t_X10_town.2.1 144 = .ok (.aload_n 0, 1) := by decide +kernel
theorem dX10_town_145 : decode t_X10_town.2.1 145 = .ok (.getfield 44, 3) := by decide +kernel
theorem gX10_town_145 : wm_gf t_X10_town 145 10 24 := ⟨_, _, _, 44, rfl, by decide, wd_1138, dX10_town_145⟩
theorem dX10_town_148 : decode t_X10_town.2.1 148 = .ok (.bipush 7, 2) := by decide +kernel
theorem dX10_town_150 : decode t_X10_town.2.1 150 = .ok (.iload_n 2, 1) := by decide +kernel
theorem dX10_town_151 : decode t_X10_town.2.1 151 = .ok (.imul, 1) := by decide +kernel
theorem dX10_town_152 : decode t_X10_town.2.1 152 = .ok (.bipush 6, 2) := by decide +kernel
theorem dX10_town_154 : decode t_X10_town.2.1 154 = .ok (.iadd, 1) := by decide +kernel
theorem dX10_town_155 : decode t_X10_town.2.1 155 = .ok (.iaload, 1) := by decide +kernel
theorem dX10_town_156 : decode t_X10_town.2.1 156 = .ok (.iastore, 1) := by decide +kernel
theorem dX10_town_157 : decode t_X10_town.2.1 157 = .ok (.aload_n 0, 1) := by decide +kernel
theorem dX10_town_158 : decode t_X10_town.2.1 158 = .ok (.getfield 41, 3) := by decide +kernel
theorem wd_1131 : Cond.fieldLink RX10 41 "TurnedStonesModel" "quarters" "[I" ∈ lw_gd := List.mem_filter.mpr ⟨List.mem_of_getElem? (i := 1131) (by decide +kernel), by decide +kernel⟩
theorem gX10_town_158 : wm_gf t_X10_town 158 10 17 := ⟨_, _, _, 41, rfl, by decide, wd_1131, dX10_town_158⟩
theorem dX10_town_161 : decode t_X10_town.2.1 161 = .ok (.iload_n 2, 1) := by decide +kernel
theorem dX10_town_162 : decode t_X10_town.2.1 162 = .ok (.iconst 0, 1) := by decide +kernel
theorem dX10_town_163 : decode t_X10_town.2.1 163 = .ok (.iastore, 1) := by decide +kernel
theorem dX10_town_164 : decode t_X10_town.2.1 164 = .ok (.iinc 2 1, 3) := by decide +kernel
theorem dX10_town_167 : decode t_X10_town.2.1 167 = .ok (.goto (-104), 3) := by decide +kernel
theorem dX10_town_170 : decode t_X10_town.2.1 170 = .ok (.aload_n 0, 1) := by decide +kernel
theorem dX10_town_171 : decode t_X10_town.2.1 171 = .ok (.iconst 0, 1) := by decide +kernel
theorem dX10_town_172 : decode t_X10_town.2.1 172 = .ok (.putfield 167, 3) := by decide +kernel
theorem wd_1132 : Cond.fieldLink RX10 167 "TurnedStonesModel" "yearNow" "I" ∈ lw_gd := List.mem_filter.mpr ⟨List.mem_of_getElem? (i := 1132) (by decide +kernel), by decide +kernel⟩
theorem gX10_town_172 : wm_pf t_X10_town 172 10 18 .int := ⟨_, _, _, 167, rfl, by decide, wd_1132, dX10_town_172, rfl, by decide +kernel⟩
theorem dX10_town_175 : decode t_X10_town.2.1 175 = .ok (.aload_n 0, 1) := by decide +kernel
theorem dX10_town_176 : decode t_X10_town.2.1 176 = .ok (.iconst 0, 1) := by decide +kernel
theorem dX10_town_177 : decode t_X10_town.2.1 177 = .ok (.putfield 170, 3) := by decide +kernel
theorem wd_1150 : Cond.fieldLink RX10 170 "TurnedStonesModel" "engravedMany" "I" ∈ lw_gd := List.mem_filter.mpr ⟨List.mem_of_getElem? (i := 1150) (by decide +kernel), by decide +kernel⟩
theorem gX10_town_177 : wm_pf t_X10_town 177 10 36 .int := ⟨_, _, _, 170, rfl, by decide, wd_1150, dX10_town_177, rfl, by decide +kernel⟩
theorem dX10_town_180 : decode t_X10_town.2.1 180 = .ok (.iconst 0, 1) := by decide +kernel
theorem dX10_town_181 : decode t_X10_town.2.1 181 = .ok (.istore_n 2, 1) := by decide +kernel
theorem dX10_town_182 : decode t_X10_town.2.1 182 = .ok (.iload_n 2, 1) := by decide +kernel
theorem dX10_town_183 : decode t_X10_town.2.1 183 = .ok (.iconst 3, 1) := by decide +kernel
theorem dX10_town_184 : decode t_X10_town.2.1 184 = .ok (.if_icmp .ge 16, 3) := by decide +kernel
theorem dX10_town_187 : decode t_X10_town.2.1 187 = .ok (.aload_n 0, 1) := by decide +kernel
theorem dX10_town_188 : decode t_X10_town.2.1 188 = .ok (.getfield 56, 3) := by decide +kernel
theorem wd_1142 : Cond.fieldLink RX10 56 "TurnedStonesModel" "keptState" "[I" ∈ lw_gd := List.mem_filter.mpr ⟨List.mem_of_getElem? (i := 1142) (by decide +kernel), by decide +kernel⟩
theorem gX10_town_188 : wm_gf t_X10_town 188 10 28 := ⟨_, _, _, 56, rfl, by decide, wd_1142, dX10_town_188⟩
theorem dX10_town_191 : decode t_X10_town.2.1 191 = .ok (.iload_n 2, 1) := by decide +kernel
theorem dX10_town_192 : decode t_X10_town.2.1 192 = .ok (.iconst (-1), 1) := by decide +kernel
theorem dX10_town_193 : decode t_X10_town.2.1 193 = .ok (.iastore, 1) := by decide +kernel
theorem dX10_town_194 : decode t_X10_town.2.1 194 = .ok (.iinc 2 1, 3) := by decide +kernel
theorem dX10_town_197 : decode t_X10_town.2.1 197 = .ok (.goto (-15), 3) := by decide +kernel
theorem dX10_town_200 : decode t_X10_town.2.1 200 = .ok (.aload_n 0, 1) := by decide +kernel
theorem dX10_town_201 : decode t_X10_town.2.1 201 = .ok (.getfield 164, 3) := by decide +kernel
theorem gX10_town_201 : wm_gf t_X10_town 201 10 12 := ⟨_, _, _, 164, rfl, by decide, wd_1126, dX10_town_201⟩
theorem dX10_town_204 : decode t_X10_town.2.1 204 = .ok (.ireturn, 1) := by decide +kernel
theorem wd_1351 : Cond.code yX10_isStone cX10_isStone 2 (some .boolean) ∈ lw_gd := List.mem_filter.mpr ⟨List.mem_of_getElem? (i := 1351) (by decide +kernel), by decide +kernel⟩
theorem wd_1350 : Cond.instanceMethod yX10_isStone ∈ lw_gd := List.mem_filter.mpr ⟨List.mem_of_getElem? (i := 1350) (by decide +kernel), by decide +kernel⟩
theorem wd_42 : Cond.selects RX10 yX10_isStone yX10_isStone ∈ lw_gd := List.mem_filter.mpr ⟨List.mem_of_getElem? (i := 42) (by decide +kernel), by decide +kernel⟩
theorem vX10_isStone : wm_calV t_X10_isStone 1 := ⟨⟨wd_1351, wd_88, by decide +kernel, by decide +kernel, by decide +kernel⟩, wd_1350, wd_42⟩
theorem dX10_isStone_0 : decode t_X10_isStone.2.1 0 = .ok (.iload_n 1, 1) := by decide +kernel
theorem dX10_isStone_1 : decode t_X10_isStone.2.1 1 = .ok (.iconst 0, 1) := by decide +kernel
theorem dX10_isStone_2 : decode t_X10_isStone.2.1 2 = .ok (.aload_n 0, 1) := by decide +kernel
theorem dX10_isStone_3 : decode t_X10_isStone.2.1 3 = .ok (.getfield 164, 3) := by decide +kernel
theorem gX10_isStone_3 : wm_gf t_X10_isStone 3 10 12 := ⟨_, _, _, 164, rfl, by decide, wd_1126, dX10_isStone_3⟩
theorem dX10_isStone_6 : decode t_X10_isStone.2.1 6 = .ok (.iconst 1, 1) := by decide +kernel
theorem dX10_isStone_7 : decode t_X10_isStone.2.1 7 = .ok (.isub, 1) := by decide +kernel
theorem dX10_isStone_8 : decode t_X10_isStone.2.1 8 = .ok (.invokestatic 97, 3) := by decide +kernel
theorem iX10_isStone_8 : wm_is t_X10_isStone t_X10_in 8 := ⟨97, wd_1248, dX10_isStone_8⟩
theorem dX10_isStone_11 : decode t_X10_isStone.2.1 11 = .ok (.ireturn, 1) := by decide +kernel
theorem wd_1444 : Cond.code yX10_isFixed cX10_isFixed 2 (some .boolean) ∈ lw_gd := List.mem_filter.mpr ⟨List.mem_of_getElem? (i := 1444) (by decide +kernel), by decide +kernel⟩
theorem wd_1443 : Cond.instanceMethod yX10_isFixed ∈ lw_gd := List.mem_filter.mpr ⟨List.mem_of_getElem? (i := 1443) (by decide +kernel), by decide +kernel⟩
theorem wd_57 : Cond.selects RX10 yX10_isFixed yX10_isFixed ∈ lw_gd := List.mem_filter.mpr ⟨List.mem_of_getElem? (i := 57) (by decide +kernel), by decide +kernel⟩
theorem vX10_isFixed : wm_calV t_X10_isFixed 1 := ⟨⟨wd_1444, wd_88, by decide +kernel, by decide +kernel, by decide +kernel⟩, wd_1443, wd_57⟩
theorem dX10_isFixed_0 : decode t_X10_isFixed.2.1 0 = .ok (.aload_n 0, 1) := by decide +kernel
theorem dX10_isFixed_1 : decode t_X10_isFixed.2.1 1 = .ok (.getfield 29, 3) := by decide +kernel
theorem gX10_isFixed_1 : wm_gf t_X10_isFixed 1 10 13 := ⟨_, _, _, 29, rfl, by decide, wd_1127, dX10_isFixed_1⟩
theorem dX10_isFixed_4 : decode t_X10_isFixed.2.1 4 = .ok (.iload_n 1, 1) := by decide +kernel
theorem dX10_isFixed_5 : decode t_X10_isFixed.2.1 5 = .ok (.iaload, 1) := by decide +kernel
theorem dX10_isFixed_6 : decode t_X10_isFixed.2.1 6 = .ok (.iconst 2, 1) := by decide +kernel
theorem dX10_isFixed_7 : decode t_X10_isFixed.2.1 7 = .ok (.if_icmp .eq 13, 3) := by decide +kernel
theorem dX10_isFixed_10 : decode t_X10_isFixed.2.1 10 = .ok (.aload_n 0, 1) := by decide +kernel
theorem dX10_isFixed_11 : decode t_X10_isFixed.2.1 11 = .ok (.getfield 29, 3) := by decide +kernel
theorem gX10_isFixed_11 : wm_gf t_X10_isFixed 11 10 13 := ⟨_, _, _, 29, rfl, by decide, wd_1127, dX10_isFixed_11⟩
theorem dX10_isFixed_14 : decode t_X10_isFixed.2.1 14 = .ok (.iload_n 1, 1) := by decide +kernel
theorem dX10_isFixed_15 : decode t_X10_isFixed.2.1 15 = .ok (.iaload, 1) := by decide +kernel
theorem dX10_isFixed_16 : decode t_X10_isFixed.2.1 16 = .ok (.iconst 5, 1) := by decide +kernel
theorem dX10_isFixed_17 : decode t_X10_isFixed.2.1 17 = .ok (.if_icmp .ne 7, 3) := by decide +kernel
theorem dX10_isFixed_20 : decode t_X10_isFixed.2.1 20 = .ok (.iconst 1, 1) := by decide +kernel
theorem dX10_isFixed_21 : decode t_X10_isFixed.2.1 21 = .ok (.goto 4, 3) := by decide +kernel
theorem dX10_isFixed_24 : decode t_X10_isFixed.2.1 24 = .ok (.iconst 0, 1) := by decide +kernel
theorem dX10_isFixed_25 : decode t_X10_isFixed.2.1 25 = .ok (.ireturn, 1) := by decide +kernel
theorem wd_1355 : Cond.code yX10_stoneTells cX10_stoneTells 3 (some .int) ∈ lw_gd := List.mem_filter.mpr ⟨List.mem_of_getElem? (i := 1355) (by decide +kernel), by decide +kernel⟩
theorem wd_1354 : Cond.instanceMethod yX10_stoneTells ∈ lw_gd := List.mem_filter.mpr ⟨List.mem_of_getElem? (i := 1354) (by decide +kernel), by decide +kernel⟩
theorem wd_43 : Cond.selects RX10 yX10_stoneTells yX10_stoneTells ∈ lw_gd := List.mem_filter.mpr ⟨List.mem_of_getElem? (i := 43) (by decide +kernel), by decide +kernel⟩
theorem vX10_stoneTells : wm_calV t_X10_stoneTells 2 := ⟨⟨wd_1355, wd_88, by decide +kernel, by decide +kernel, by decide +kernel⟩, wd_1354, wd_43⟩
theorem dX10_stoneTells_0 : decode t_X10_stoneTells.2.1 0 = .ok (.iload_n 2, 1) := by decide +kernel
theorem dX10_stoneTells_1 : decode t_X10_stoneTells.2.1 1 = .ok (.ifCond .ne 12, 3) := by decide +kernel
theorem dX10_stoneTells_4 : decode t_X10_stoneTells.2.1 4 = .ok (.aload_n 0, 1) := by decide +kernel
theorem dX10_stoneTells_5 : decode t_X10_stoneTells.2.1 5 = .ok (.getfield 29, 3) := by decide +kernel
theorem gX10_stoneTells_5 : wm_gf t_X10_stoneTells 5 10 13 := ⟨_, _, _, 29, rfl, by decide, wd_1127, dX10_stoneTells_5⟩
theorem dX10_stoneTells_8 : decode t_X10_stoneTells.2.1 8 = .ok (.iload_n 1, 1) := by decide +kernel
theorem dX10_stoneTells_9 : decode t_X10_stoneTells.2.1 9 = .ok (.iaload, 1) := by decide +kernel
theorem dX10_stoneTells_10 : decode t_X10_stoneTells.2.1 10 = .ok (.goto 29, 3) := by decide +kernel
theorem dX10_stoneTells_13 : decode t_X10_stoneTells.2.1 13 = .ok (.iload_n 2, 1) := by decide +kernel
theorem dX10_stoneTells_14 : decode t_X10_stoneTells.2.1 14 = .ok (.iconst 1, 1) := by decide +kernel
theorem dX10_stoneTells_15 : decode t_X10_stoneTells.2.1 15 = .ok (.if_icmp .ne 12, 3) := by decide +kernel
theorem dX10_stoneTells_18 : decode t_X10_stoneTells.2.1 18 = .ok (.aload_n 0, 1) := by decide +kernel
theorem dX10_stoneTells_19 : decode t_X10_stoneTells.2.1 19 = .ok (.getfield 41, 3) := by decide +kernel
theorem gX10_stoneTells_19 : wm_gf t_X10_stoneTells 19 10 17 := ⟨_, _, _, 41, rfl, by decide, wd_1131, dX10_stoneTells_19⟩
theorem dX10_stoneTells_22 : decode t_X10_stoneTells.2.1 22 = .ok (.iload_n 1, 1) := by decide +kernel
theorem dX10_stoneTells_23 : decode t_X10_stoneTells.2.1 23 = .ok (.iaload, 1) := by decide +kernel
theorem dX10_stoneTells_24 : decode t_X10_stoneTells.2.1 24 = .ok (.goto 15, 3) := by decide +kernel
theorem dX10_stoneTells_27 : decode t_X10_stoneTells.2.1 27 = .ok (.aload_n 0, 1) := by decide +kernel
theorem dX10_stoneTells_28 : decode t_X10_stoneTells.2.1 28 = .ok (.getfield 32, 3) := by decide +kernel
theorem gX10_stoneTells_28 : wm_gf t_X10_stoneTells 28 10 14 := ⟨_, _, _, 32, rfl, by decide, wd_1128, dX10_stoneTells_28⟩
theorem dX10_stoneTells_31 : decode t_X10_stoneTells.2.1 31 = .ok (.iconst 4, 1) := by decide +kernel
theorem dX10_stoneTells_32 : decode t_X10_stoneTells.2.1 32 = .ok (.iload_n 1, 1) := by decide +kernel
theorem dX10_stoneTells_33 : decode t_X10_stoneTells.2.1 33 = .ok (.imul, 1) := by decide +kernel
theorem dX10_stoneTells_34 : decode t_X10_stoneTells.2.1 34 = .ok (.iload_n 2, 1) := by decide +kernel
theorem dX10_stoneTells_35 : decode t_X10_stoneTells.2.1 35 = .ok (.iadd, 1) := by decide +kernel
theorem dX10_stoneTells_36 : decode t_X10_stoneTells.2.1 36 = .ok (.iconst 2, 1) := by decide +kernel
theorem dX10_stoneTells_37 : decode t_X10_stoneTells.2.1 37 = .ok (.isub, 1) := by decide +kernel
theorem dX10_stoneTells_38 : decode t_X10_stoneTells.2.1 38 = .ok (.iaload, 1) := by decide +kernel
theorem dX10_stoneTells_39 : decode t_X10_stoneTells.2.1 39 = .ok (.ireturn, 1) := by decide +kernel
theorem wd_1347 : Cond.code yX10_stone cX10_stone 3 (some .int) ∈ lw_gd := List.mem_filter.mpr ⟨List.mem_of_getElem? (i := 1347) (by decide +kernel), by decide +kernel⟩
theorem wd_1345 : Cond.instanceMethod yX10_stone ∈ lw_gd := List.mem_filter.mpr ⟨List.mem_of_getElem? (i := 1345) (by decide +kernel), by decide +kernel⟩
theorem wd_1346 : Cond.selects RX10 yX10_stone yX10_stone ∈ lw_gd := List.mem_filter.mpr ⟨List.mem_of_getElem? (i := 1346) (by decide +kernel), by decide +kernel⟩
theorem vX10_stone : wm_calV t_X10_stone 2 := ⟨⟨wd_1347, wd_88, by decide +kernel, by decide +kernel, by decide +kernel⟩, wd_1345, wd_1346⟩
theorem dX10_stone_0 : decode t_X10_stone.2.1 0 = .ok (.aload_n 0, 1) := by decide +kernel
theorem dX10_stone_1 : decode t_X10_stone.2.1 1 = .ok (.iload_n 1, 1) := by decide +kernel
theorem dX10_stone_2 : decode t_X10_stone.2.1 2 = .ok (.invokevirtual 173, 3) := by decide +kernel
theorem wd_1348 : Cond.methodLink RX10 173 yX10_isStone ∈ lw_gd := List.mem_filter.mpr ⟨List.mem_of_getElem? (i := 1348) (by decide +kernel), by decide +kernel⟩
theorem iX10_stone_2 : wm_iv t_X10_stone t_X10_isStone 2 := ⟨173, wd_1348, dX10_stone_2⟩
theorem dX10_stone_5 : decode t_X10_stone.2.1 5 = .ok (.ifCond .eq 26, 3) := by decide +kernel
theorem dX10_stone_8 : decode t_X10_stone.2.1 8 = .ok (.iload_n 2, 1) := by decide +kernel
theorem dX10_stone_9 : decode t_X10_stone.2.1 9 = .ok (.iconst 0, 1) := by decide +kernel
theorem dX10_stone_10 : decode t_X10_stone.2.1 10 = .ok (.iconst 5, 1) := by decide +kernel
theorem dX10_stone_11 : decode t_X10_stone.2.1 11 = .ok (.invokestatic 97, 3) := by decide +kernel
theorem iX10_stone_11 : wm_is t_X10_stone t_X10_in 11 := ⟨97, wd_1248, dX10_stone_11⟩
theorem dX10_stone_14 : decode t_X10_stone.2.1 14 = .ok (.ifCond .eq 17, 3) := by decide +kernel
theorem dX10_stone_17 : decode t_X10_stone.2.1 17 = .ok (.aload_n 0, 1) := by decide +kernel
theorem dX10_stone_18 : decode t_X10_stone.2.1 18 = .ok (.aload_n 0, 1) := by decide +kernel
theorem dX10_stone_19 : decode t_X10_stone.2.1 19 = .ok (.iload_n 1, 1) := by decide +kernel
theorem dX10_stone_20 : decode t_X10_stone.2.1 20 = .ok (.iload_n 2, 1) := by decide +kernel
theorem dX10_stone_21 : decode t_X10_stone.2.1 21 = .ok (.invokevirtual 176, 3) := by decide +kernel
theorem wd_1352 : Cond.methodLink RX10 176 yX10_stoneTells ∈ lw_gd := List.mem_filter.mpr ⟨List.mem_of_getElem? (i := 1352) (by decide +kernel), by decide +kernel⟩
theorem iX10_stone_21 : wm_iv t_X10_stone t_X10_stoneTells 21 := ⟨176, wd_1352, dX10_stone_21⟩
theorem dX10_stone_24 : decode t_X10_stone.2.1 24 = .ok (.iconst 1, 1) := by decide +kernel
theorem dX10_stone_25 : decode t_X10_stone.2.1 25 = .ok (.invokevirtual 119, 3) := by decide +kernel
theorem iX10_stone_25 : wm_iv t_X10_stone t_X10_tells 25 := ⟨119, wd_1282, dX10_stone_25⟩
theorem dX10_stone_28 : decode t_X10_stone.2.1 28 = .ok (.goto 4, 3) := by decide +kernel
theorem dX10_stone_31 : decode t_X10_stone.2.1 31 = .ok (.iconst (-1), 1) := by decide +kernel
theorem dX10_stone_32 : decode t_X10_stone.2.1 32 = .ok (.ireturn, 1) := by decide +kernel
theorem wd_1363 : Cond.code yX10_unlike cX10_unlike 5 (some .int) ∈ lw_gd := List.mem_filter.mpr ⟨List.mem_of_getElem? (i := 1363) (by decide +kernel), by decide +kernel⟩
theorem wd_1362 : Cond.instanceMethod yX10_unlike ∈ lw_gd := List.mem_filter.mpr ⟨List.mem_of_getElem? (i := 1362) (by decide +kernel), by decide +kernel⟩
theorem wd_44 : Cond.selects RX10 yX10_unlike yX10_unlike ∈ lw_gd := List.mem_filter.mpr ⟨List.mem_of_getElem? (i := 44) (by decide +kernel), by decide +kernel⟩
theorem vX10_unlike : wm_calV t_X10_unlike 2 := ⟨⟨wd_1363, wd_88, by decide +kernel, by decide +kernel, by decide +kernel⟩, wd_1362, wd_44⟩
theorem dX10_unlike_0 : decode t_X10_unlike.2.1 0 = .ok (.iconst 0, 1) := by decide +kernel
theorem dX10_unlike_1 : decode t_X10_unlike.2.1 1 = .ok (.istore_n 3, 1) := by decide +kernel
theorem dX10_unlike_2 : decode t_X10_unlike.2.1 2 = .ok (.iconst 0, 1) := by decide +kernel
theorem dX10_unlike_3 : decode t_X10_unlike.2.1 3 = .ok (.istore 4, 2) := by decide +kernel
theorem dX10_unlike_5 : decode t_X10_unlike.2.1 5 = .ok (.iload 4, 2) := by decide +kernel
theorem dX10_unlike_7 : decode t_X10_unlike.2.1 7 = .ok (.iconst 4, 1) := by decide +kernel
theorem dX10_unlike_8 : decode t_X10_unlike.2.1 8 = .ok (.if_icmp .ge 38, 3) := by decide +kernel
theorem dX10_unlike_11 : decode t_X10_unlike.2.1 11 = .ok (.iload_n 3, 1) := by decide +kernel
theorem dX10_unlike_12 : decode t_X10_unlike.2.1 12 = .ok (.iload_n 2, 1) := by decide +kernel
theorem dX10_unlike_13 : decode t_X10_unlike.2.1 13 = .ok (.iload 4, 2) := by decide +kernel
theorem dX10_unlike_15 : decode t_X10_unlike.2.1 15 = .ok (.invokestatic 179, 3) := by decide +kernel
theorem wd_1364 : Cond.methodLink RX10 179 yX10_has ∈ lw_gd := List.mem_filter.mpr ⟨List.mem_of_getElem? (i := 1364) (by decide +kernel), by decide +kernel⟩
theorem iX10_unlike_15 : wm_is t_X10_unlike t_X10_has 15 := ⟨179, wd_1364, dX10_unlike_15⟩
theorem dX10_unlike_18 : decode t_X10_unlike.2.1 18 = .ok (.ifCond .eq 19, 3) := by decide +kernel
theorem dX10_unlike_21 : decode t_X10_unlike.2.1 21 = .ok (.iconst 1, 1) := by decide +kernel
theorem dX10_unlike_22 : decode t_X10_unlike.2.1 22 = .ok (.aload_n 0, 1) := by decide +kernel
theorem dX10_unlike_23 : decode t_X10_unlike.2.1 23 = .ok (.getfield 32, 3) := by decide +kernel
theorem gX10_unlike_23 : wm_gf t_X10_unlike 23 10 14 := ⟨_, _, _, 32, rfl, by decide, wd_1128, dX10_unlike_23⟩
theorem dX10_unlike_26 : decode t_X10_unlike.2.1 26 = .ok (.iconst 4, 1) := by decide +kernel
theorem dX10_unlike_27 : decode t_X10_unlike.2.1 27 = .ok (.iload_n 1, 1) := by decide +kernel
theorem dX10_unlike_28 : decode t_X10_unlike.2.1 28 = .ok (.imul, 1) := by decide +kernel
theorem dX10_unlike_29 : decode t_X10_unlike.2.1 29 = .ok (.iload 4, 2) := by decide +kernel
theorem dX10_unlike_31 : decode t_X10_unlike.2.1 31 = .ok (.iadd, 1) := by decide +kernel
theorem dX10_unlike_32 : decode t_X10_unlike.2.1 32 = .ok (.iaload, 1) := by decide +kernel
theorem dX10_unlike_33 : decode t_X10_unlike.2.1 33 = .ok (.ishl, 1) := by decide +kernel
theorem dX10_unlike_34 : decode t_X10_unlike.2.1 34 = .ok (.goto 4, 3) := by decide +kernel
theorem dX10_unlike_37 : decode t_X10_unlike.2.1 37 = .ok (.iconst 0, 1) := by decide +kernel
theorem dX10_unlike_38 : decode t_X10_unlike.2.1 38 = .ok (.ior, 1) := by decide +kernel
theorem dX10_unlike_39 : decode t_X10_unlike.2.1 39 = .ok (.istore_n 3, 1) := by decide +kernel
theorem dX10_unlike_40 : decode t_X10_unlike.2.1 40 = .ok (.iinc 4 1, 3) := by decide +kernel
theorem dX10_unlike_43 : decode t_X10_unlike.2.1 43 = .ok (.goto (-38), 3) := by decide +kernel
theorem dX10_unlike_46 : decode t_X10_unlike.2.1 46 = .ok (.iload_n 3, 1) := by decide +kernel
theorem dX10_unlike_47 : decode t_X10_unlike.2.1 47 = .ok (.invokestatic 183, 3) := by decide +kernel
theorem wd_1367 : Cond.methodLink RX10 183 yX10_bits ∈ lw_gd := List.mem_filter.mpr ⟨List.mem_of_getElem? (i := 1367) (by decide +kernel), by decide +kernel⟩
theorem iX10_unlike_47 : wm_is t_X10_unlike t_X10_bits 47 := ⟨183, wd_1367, dX10_unlike_47⟩
theorem dX10_unlike_50 : decode t_X10_unlike.2.1 50 = .ok (.ireturn, 1) := by decide +kernel
theorem wd_1359 : Cond.code yX10_mark cX10_mark 4 (some .int) ∈ lw_gd := List.mem_filter.mpr ⟨List.mem_of_getElem? (i := 1359) (by decide +kernel), by decide +kernel⟩
theorem wd_1357 : Cond.instanceMethod yX10_mark ∈ lw_gd := List.mem_filter.mpr ⟨List.mem_of_getElem? (i := 1357) (by decide +kernel), by decide +kernel⟩
theorem wd_1358 : Cond.selects RX10 yX10_mark yX10_mark ∈ lw_gd := List.mem_filter.mpr ⟨List.mem_of_getElem? (i := 1358) (by decide +kernel), by decide +kernel⟩
theorem vX10_mark : wm_calV t_X10_mark 2 := ⟨⟨wd_1359, wd_88, by decide +kernel, by decide +kernel, by decide +kernel⟩, wd_1357, wd_1358⟩
theorem dX10_mark_0 : decode t_X10_mark.2.1 0 = .ok (.aload_n 0, 1) := by decide +kernel
theorem dX10_mark_1 : decode t_X10_mark.2.1 1 = .ok (.iload_n 1, 1) := by decide +kernel
theorem dX10_mark_2 : decode t_X10_mark.2.1 2 = .ok (.invokevirtual 173, 3) := by decide +kernel
theorem iX10_mark_2 : wm_iv t_X10_mark t_X10_isStone 2 := ⟨173, wd_1348, dX10_mark_2⟩
theorem dX10_mark_5 : decode t_X10_mark.2.1 5 = .ok (.ifCond .eq 12, 3) := by decide +kernel
theorem dX10_mark_8 : decode t_X10_mark.2.1 8 = .ok (.iload_n 2, 1) := by decide +kernel
theorem dX10_mark_9 : decode t_X10_mark.2.1 9 = .ok (.iconst 1, 1) := by decide +kernel
theorem dX10_mark_10 : decode t_X10_mark.2.1 10 = .ok (.iconst 5, 1) := by decide +kernel
theorem dX10_mark_11 : decode t_X10_mark.2.1 11 = .ok (.invokestatic 97, 3) := by decide +kernel
theorem iX10_mark_11 : wm_is t_X10_mark t_X10_in 11 := ⟨97, wd_1248, dX10_mark_11⟩
theorem dX10_mark_14 : decode t_X10_mark.2.1 14 = .ok (.ifCond .ne 5, 3) := by decide +kernel
theorem dX10_mark_17 : decode t_X10_mark.2.1 17 = .ok (.iconst (-1), 1) := by decide +kernel
theorem dX10_mark_18 : decode t_X10_mark.2.1 18 = .ok (.ireturn, 1) := by decide +kernel
theorem dX10_mark_19 : decode t_X10_mark.2.1 19 = .ok (.aload_n 0, 1) := by decide +kernel
theorem dX10_mark_20 : decode t_X10_mark.2.1 20 = .ok (.getfield 29, 3) := by decide +kernel
theorem gX10_mark_20 : wm_gf t_X10_mark 20 10 13 := ⟨_, _, _, 29, rfl, by decide, wd_1127, dX10_mark_20⟩
theorem dX10_mark_23 : decode t_X10_mark.2.1 23 = .ok (.iload_n 1, 1) := by decide +kernel
theorem dX10_mark_24 : decode t_X10_mark.2.1 24 = .ok (.iaload, 1) := by decide +kernel
theorem dX10_mark_25 : decode t_X10_mark.2.1 25 = .ok (.istore_n 3, 1) := by decide +kernel
theorem dX10_mark_26 : decode t_X10_mark.2.1 26 = .ok (.iload_n 3, 1) := by decide +kernel
theorem dX10_mark_27 : decode t_X10_mark.2.1 27 = .ok (.iload_n 2, 1) := by decide +kernel
theorem dX10_mark_28 : decode t_X10_mark.2.1 28 = .ok (.if_icmp .eq 29, 3) := by decide +kernel
theorem dX10_mark_31 : decode t_X10_mark.2.1 31 = .ok (.iload_n 2, 1) := by decide +kernel
theorem dX10_mark_32 : decode t_X10_mark.2.1 32 = .ok (.iconst 1, 1) := by decide +kernel
theorem dX10_mark_33 : decode t_X10_mark.2.1 33 = .ok (.if_icmp .ne 8, 3) := by decide +kernel
theorem dX10_mark_36 : decode t_X10_mark.2.1 36 = .ok (.iload_n 3, 1) := by decide +kernel
theorem dX10_mark_37 : decode t_X10_mark.2.1 37 = .ok (.iconst 4, 1) := by decide +kernel
theorem dX10_mark_38 : decode t_X10_mark.2.1 38 = .ok (.if_icmp .eq 19, 3) := by decide +kernel
theorem dX10_mark_41 : decode t_X10_mark.2.1 41 = .ok (.iload_n 2, 1) := by decide +kernel
theorem dX10_mark_42 : decode t_X10_mark.2.1 42 = .ok (.iconst 2, 1) := by decide +kernel
theorem dX10_mark_43 : decode t_X10_mark.2.1 43 = .ok (.if_icmp .ne 8, 3) := by decide +kernel
theorem dX10_mark_46 : decode t_X10_mark.2.1 46 = .ok (.iload_n 3, 1) := by decide +kernel
theorem dX10_mark_47 : decode t_X10_mark.2.1 47 = .ok (.iconst 5, 1) := by decide +kernel
theorem dX10_mark_48 : decode t_X10_mark.2.1 48 = .ok (.if_icmp .eq 9, 3) := by decide +kernel
theorem dX10_mark_51 : decode t_X10_mark.2.1 51 = .ok (.aload_n 0, 1) := by decide +kernel
theorem dX10_mark_52 : decode t_X10_mark.2.1 52 = .ok (.iconst 3, 1) := by decide +kernel
theorem dX10_mark_53 : decode t_X10_mark.2.1 53 = .ok (.invokevirtual 111, 3) := by decide +kernel
theorem iX10_mark_53 : wm_iv t_X10_mark t_X10_meets 53 := ⟨111, wd_1270, dX10_mark_53⟩
theorem dX10_mark_56 : decode t_X10_mark.2.1 56 = .ok (.ireturn, 1) := by decide +kernel
theorem dX10_mark_57 : decode t_X10_mark.2.1 57 = .ok (.iload_n 2, 1) := by decide +kernel
theorem dX10_mark_58 : decode t_X10_mark.2.1 58 = .ok (.tableswitch 91 1 4 #[30, 37, 65, 72], 30) := by decide +kernel
theorem dX10_mark_88 : decode t_X10_mark.2.1 88 = .ok (.aload_n 0, 1) := by decide +kernel
theorem dX10_mark_89 : decode t_X10_mark.2.1 89 = .ok (.getfield 35, 3) := by decide +kernel
theorem gX10_mark_89 : wm_gf t_X10_mark 89 10 15 := ⟨_, _, _, 35, rfl, by decide, wd_1129, dX10_mark_89⟩
theorem dX10_mark_92 : decode t_X10_mark.2.1 92 = .ok (.iload_n 1, 1) := by decide +kernel
theorem dX10_mark_93 : decode t_X10_mark.2.1 93 = .ok (.iaload, 1) := by decide +kernel
theorem dX10_mark_94 : decode t_X10_mark.2.1 94 = .ok (.ireturn, 1) := by decide +kernel
theorem dX10_mark_95 : decode t_X10_mark.2.1 95 = .ok (.aload_n 0, 1) := by decide +kernel
theorem dX10_mark_96 : decode t_X10_mark.2.1 96 = .ok (.getfield 158, 3) := by decide +kernel
theorem gX10_mark_96 : wm_gf t_X10_mark 96 10 10 := ⟨_, _, _, 158, rfl, by decide, wd_1124, dX10_mark_96⟩
theorem dX10_mark_99 : decode t_X10_mark.2.1 99 = .ok (.iconst 1, 1) := by decide +kernel
theorem dX10_mark_100 : decode t_X10_mark.2.1 100 = .ok (.if_icmp .le 7, 3) := by decide +kernel
theorem dX10_mark_103 : decode t_X10_mark.2.1 103 = .ok (.iconst 1, 1) := by decide +kernel
theorem dX10_mark_104 : decode t_X10_mark.2.1 104 = .ok (.goto 4, 3) := by decide +kernel
theorem dX10_mark_107 : decode t_X10_mark.2.1 107 = .ok (.iconst 0, 1) := by decide +kernel
theorem dX10_mark_108 : decode t_X10_mark.2.1 108 = .ok (.aload_n 0, 1) := by decide +kernel
theorem dX10_mark_109 : decode t_X10_mark.2.1 109 = .ok (.getfield 161, 3) := by decide +kernel
theorem gX10_mark_109 : wm_gf t_X10_mark 109 10 11 := ⟨_, _, _, 161, rfl, by decide, wd_1125, dX10_mark_109⟩
theorem dX10_mark_112 : decode t_X10_mark.2.1 112 = .ok (.iconst 1, 1) := by decide +kernel
theorem dX10_mark_113 : decode t_X10_mark.2.1 113 = .ok (.if_icmp .le 7, 3) := by decide +kernel
theorem dX10_mark_116 : decode t_X10_mark.2.1 116 = .ok (.iconst 1, 1) := by decide +kernel
theorem dX10_mark_117 : decode t_X10_mark.2.1 117 = .ok (.goto 4, 3) := by decide +kernel
theorem dX10_mark_120 : decode t_X10_mark.2.1 120 = .ok (.iconst 0, 1) := by decide +kernel
theorem dX10_mark_121 : decode t_X10_mark.2.1 121 = .ok (.iadd, 1) := by decide +kernel
theorem dX10_mark_122 : decode t_X10_mark.2.1 122 = .ok (.ireturn, 1) := by decide +kernel
theorem dX10_mark_123 : decode t_X10_mark.2.1 123 = .ok (.aload_n 0, 1) := by decide +kernel
theorem dX10_mark_124 : decode t_X10_mark.2.1 124 = .ok (.iload_n 1, 1) := by decide +kernel
theorem dX10_mark_125 : decode t_X10_mark.2.1 125 = .ok (.iconst 5, 1) := by decide +kernel
theorem dX10_mark_126 : decode t_X10_mark.2.1 126 = .ok (.invokevirtual 186, 3) := by decide +kernel
theorem wd_1360 : Cond.methodLink RX10 186 yX10_unlike ∈ lw_gd := List.mem_filter.mpr ⟨List.mem_of_getElem? (i := 1360) (by decide +kernel), by decide +kernel⟩
theorem iX10_mark_126 : wm_iv t_X10_mark t_X10_unlike 126 := ⟨186, wd_1360, dX10_mark_126⟩
theorem dX10_mark_129 : decode t_X10_mark.2.1 129 = .ok (.ireturn, 1) := by decide +kernel
theorem dX10_mark_130 : decode t_X10_mark.2.1 130 = .ok (.aload_n 0, 1) := by decide +kernel
theorem dX10_mark_131 : decode t_X10_mark.2.1 131 = .ok (.iload_n 1, 1) := by decide +kernel
theorem dX10_mark_132 : decode t_X10_mark.2.1 132 = .ok (.bipush 15, 2) := by decide +kernel
theorem dX10_mark_134 : decode t_X10_mark.2.1 134 = .ok (.iconst 1, 1) := by decide +kernel
theorem dX10_mark_135 : decode t_X10_mark.2.1 135 = .ok (.aload_n 0, 1) := by decide +kernel
theorem dX10_mark_136 : decode t_X10_mark.2.1 136 = .ok (.getfield 35, 3) := by decide +kernel
theorem gX10_mark_136 : wm_gf t_X10_mark 136 10 15 := ⟨_, _, _, 35, rfl, by decide, wd_1129, dX10_mark_136⟩
theorem dX10_mark_139 : decode t_X10_mark.2.1 139 = .ok (.iload_n 1, 1) := by decide +kernel
theorem dX10_mark_140 : decode t_X10_mark.2.1 140 = .ok (.iaload, 1) := by decide +kernel
theorem dX10_mark_141 : decode t_X10_mark.2.1 141 = .ok (.ishl, 1) := by decide +kernel
theorem dX10_mark_142 : decode t_X10_mark.2.1 142 = .ok (.iconst (-1), 1) := by decide +kernel
theorem dX10_mark_143 : decode t_X10_mark.2.1 143 = .ok (.ixor, 1) := by decide +kernel
theorem dX10_mark_144 : decode t_X10_mark.2.1 144 = .ok (.iand, 1) := by decide +kernel
theorem dX10_mark_145 : decode t_X10_mark.2.1 145 = .ok (.invokevirtual 186, 3) := by decide +kernel
theorem iX10_mark_145 : wm_iv t_X10_mark t_X10_unlike 145 := ⟨186, wd_1360, dX10_mark_145⟩
theorem dX10_mark_148 : decode t_X10_mark.2.1 148 = .ok (.ireturn, 1) := by decide +kernel
theorem dX10_mark_149 : decode t_X10_mark.2.1 149 = .ok (.iload_n 1, 1) := by decide +kernel
theorem dX10_mark_150 : decode t_X10_mark.2.1 150 = .ok (.aload_n 0, 1) := by decide +kernel
theorem dX10_mark_151 : decode t_X10_mark.2.1 151 = .ok (.getfield 158, 3) := by decide +kernel
theorem gX10_mark_151 : wm_gf t_X10_mark 151 10 10 := ⟨_, _, _, 158, rfl, by decide, wd_1124, dX10_mark_151⟩
theorem dX10_mark_154 : decode t_X10_mark.2.1 154 = .ok (.idiv, 1) := by decide +kernel
theorem dX10_mark_155 : decode t_X10_mark.2.1 155 = .ok (.ireturn, 1) := by decide +kernel
theorem wd_1376 : Cond.code yX10_isLaw cX10_isLaw 1 (some .boolean) ∈ lw_gd := List.mem_filter.mpr ⟨List.mem_of_getElem? (i := 1376) (by decide +kernel), by decide +kernel⟩
theorem wd_1375 : Cond.static yX10_isLaw ∈ lw_gd := List.mem_filter.mpr ⟨List.mem_of_getElem? (i := 1375) (by decide +kernel), by decide +kernel⟩
theorem vX10_isLaw : wm_calS t_X10_isLaw 1 := ⟨⟨wd_1376, wd_88, by decide +kernel, by decide +kernel, by decide +kernel⟩, wd_1375⟩
theorem dX10_isLaw_0 : decode t_X10_isLaw.2.1 0 = .ok (.iload_n 0, 1) := by decide +kernel
theorem dX10_isLaw_1 : decode t_X10_isLaw.2.1 1 = .ok (.iconst 0, 1) := by decide +kernel
theorem dX10_isLaw_2 : decode t_X10_isLaw.2.1 2 = .ok (.iconst 3, 1) := by decide +kernel
theorem dX10_isLaw_3 : decode t_X10_isLaw.2.1 3 = .ok (.invokestatic 97, 3) := by decide +kernel
theorem iX10_isLaw_3 : wm_is t_X10_isLaw t_X10_in 3 := ⟨97, wd_1248, dX10_isLaw_3⟩
theorem dX10_isLaw_6 : decode t_X10_isLaw.2.1 6 = .ok (.ireturn, 1) := by decide +kernel
theorem wd_1373 : Cond.code yX10_law cX10_law 5 (some .int) ∈ lw_gd := List.mem_filter.mpr ⟨List.mem_of_getElem? (i := 1373) (by decide +kernel), by decide +kernel⟩
theorem wd_1371 : Cond.instanceMethod yX10_law ∈ lw_gd := List.mem_filter.mpr ⟨List.mem_of_getElem? (i := 1371) (by decide +kernel), by decide +kernel⟩
theorem wd_1372 : Cond.selects RX10 yX10_law yX10_law ∈ lw_gd := List.mem_filter.mpr ⟨List.mem_of_getElem? (i := 1372) (by decide +kernel), by decide +kernel⟩
theorem vX10_law : wm_calV t_X10_law 2 := ⟨⟨wd_1373, wd_88, by decide +kernel, by decide +kernel, by decide +kernel⟩, wd_1371, wd_1372⟩
theorem dX10_law_0 : decode t_X10_law.2.1 0 = .ok (.iload_n 1, 1) := by decide +kernel
theorem dX10_law_1 : decode t_X10_law.2.1 1 = .ok (.invokestatic 189, 3) := by decide +kernel
theorem wd_1374 : Cond.methodLink RX10 189 yX10_isLaw ∈ lw_gd := List.mem_filter.mpr ⟨List.mem_of_getElem? (i := 1374) (by decide +kernel), by decide +kernel⟩
theorem iX10_law_1 : wm_is t_X10_law t_X10_isLaw 1 := ⟨189, wd_1374, dX10_law_1⟩
theorem dX10_law_4 : decode t_X10_law.2.1 4 = .ok (.ifCond .eq 10, 3) := by decide +kernel
theorem dX10_law_7 : decode t_X10_law.2.1 7 = .ok (.iload_n 2, 1) := by decide +kernel
theorem dX10_law_8 : decode t_X10_law.2.1 8 = .ok (.invokestatic 107, 3) := by decide +kernel
theorem iX10_law_8 : wm_is t_X10_law t_X10_isRow 8 := ⟨107, wd_1267, dX10_law_8⟩
theorem dX10_law_11 : decode t_X10_law.2.1 11 = .ok (.ifCond .ne 5, 3) := by decide +kernel
theorem dX10_law_14 : decode t_X10_law.2.1 14 = .ok (.iconst (-1), 1) := by decide +kernel
theorem dX10_law_15 : decode t_X10_law.2.1 15 = .ok (.ireturn, 1) := by decide +kernel
theorem dX10_law_16 : decode t_X10_law.2.1 16 = .ok (.aload_n 0, 1) := by decide +kernel
theorem dX10_law_17 : decode t_X10_law.2.1 17 = .ok (.getfield 13, 3) := by decide +kernel
theorem gX10_law_17 : wm_gf t_X10_law 17 10 5 := ⟨_, _, _, 13, rfl, by decide, wd_1119, dX10_law_17⟩
theorem dX10_law_20 : decode t_X10_law.2.1 20 = .ok (.iload_n 2, 1) := by decide +kernel
theorem dX10_law_21 : decode t_X10_law.2.1 21 = .ok (.iaload, 1) := by decide +kernel
theorem dX10_law_22 : decode t_X10_law.2.1 22 = .ok (.ifCond .ge 9, 3) := by decide +kernel
theorem dX10_law_25 : decode t_X10_law.2.1 25 = .ok (.aload_n 0, 1) := by decide +kernel
theorem dX10_law_26 : decode t_X10_law.2.1 26 = .ok (.iconst 1, 1) := by decide +kernel
theorem dX10_law_27 : decode t_X10_law.2.1 27 = .ok (.invokevirtual 111, 3) := by decide +kernel
theorem iX10_law_27 : wm_iv t_X10_law t_X10_meets 27 := ⟨111, wd_1270, dX10_law_27⟩
theorem dX10_law_30 : decode t_X10_law.2.1 30 = .ok (.ireturn, 1) := by decide +kernel
theorem dX10_law_31 : decode t_X10_law.2.1 31 = .ok (.aload_n 0, 1) := by decide +kernel
theorem dX10_law_32 : decode t_X10_law.2.1 32 = .ok (.getfield 13, 3) := by decide +kernel
theorem gX10_law_32 : wm_gf t_X10_law 32 10 5 := ⟨_, _, _, 13, rfl, by decide, wd_1119, dX10_law_32⟩
theorem dX10_law_35 : decode t_X10_law.2.1 35 = .ok (.iload_n 2, 1) := by decide +kernel
theorem dX10_law_36 : decode t_X10_law.2.1 36 = .ok (.iaload, 1) := by decide +kernel
theorem dX10_law_37 : decode t_X10_law.2.1 37 = .ok (.iconst 1, 1) := by decide +kernel
theorem dX10_law_38 : decode t_X10_law.2.1 38 = .ok (.iconst 3, 1) := by decide +kernel
theorem dX10_law_39 : decode t_X10_law.2.1 39 = .ok (.invokestatic 97, 3) := by decide +kernel
theorem iX10_law_39 : wm_is t_X10_law t_X10_in 39 := ⟨97, wd_1248, dX10_law_39⟩
theorem dX10_law_42 : decode t_X10_law.2.1 42 = .ok (.ifCond .ne 9, 3) := by decide +kernel
theorem dX10_law_45 : decode t_X10_law.2.1 45 = .ok (.aload_n 0, 1) := by decide +kernel
theorem dX10_law_46 : decode t_X10_law.2.1 46 = .ok (.iconst 5, 1) := by decide +kernel
theorem dX10_law_47 : decode t_X10_law.2.1 47 = .ok (.invokevirtual 111, 3) := by decide +kernel
theorem iX10_law_47 : wm_iv t_X10_law t_X10_meets 47 := ⟨111, wd_1270, dX10_law_47⟩
theorem dX10_law_50 : decode t_X10_law.2.1 50 = .ok (.ireturn, 1) := by decide +kernel
theorem dX10_law_51 : decode t_X10_law.2.1 51 = .ok (.iconst 1, 1) := by decide +kernel
theorem dX10_law_52 : decode t_X10_law.2.1 52 = .ok (.istore_n 3, 1) := by decide +kernel
theorem dX10_law_53 : decode t_X10_law.2.1 53 = .ok (.iconst 0, 1) := by decide +kernel
theorem dX10_law_54 : decode t_X10_law.2.1 54 = .ok (.istore 4, 2) := by decide +kernel
theorem dX10_law_56 : decode t_X10_law.2.1 56 = .ok (.iload 4, 2) := by decide +kernel
theorem dX10_law_58 : decode t_X10_law.2.1 58 = .ok (.aload_n 0, 1) := by decide +kernel
theorem dX10_law_59 : decode t_X10_law.2.1 59 = .ok (.getfield 13, 3) := by decide +kernel
theorem gX10_law_59 : wm_gf t_X10_law 59 10 5 := ⟨_, _, _, 13, rfl, by decide, wd_1119, dX10_law_59⟩
theorem dX10_law_62 : decode t_X10_law.2.1 62 = .ok (.iload_n 2, 1) := by decide +kernel
theorem dX10_law_63 : decode t_X10_law.2.1 63 = .ok (.iaload, 1) := by decide +kernel
theorem dX10_law_64 : decode t_X10_law.2.1 64 = .ok (.if_icmp .ge 35, 3) := by decide +kernel
theorem dX10_law_67 : decode t_X10_law.2.1 67 = .ok (.iload_n 3, 1) := by decide +kernel
theorem dX10_law_68 : decode t_X10_law.2.1 68 = .ok (.ifCond .eq 23, 3) := by decide +kernel
theorem dX10_law_71 : decode t_X10_law.2.1 71 = .ok (.aload_n 0, 1) := by decide +kernel
theorem dX10_law_72 : decode t_X10_law.2.1 72 = .ok (.iload_n 2, 1) := by decide +kernel
theorem dX10_law_73 : decode t_X10_law.2.1 73 = .ok (.iload 4, 2) := by decide +kernel
theorem dX10_law_75 : decode t_X10_law.2.1 75 = .ok (.invokevirtual 115, 3) := by decide +kernel
theorem iX10_law_75 : wm_iv t_X10_law t_X10_rowAt 75 := ⟨115, wd_1278, dX10_law_75⟩
theorem dX10_law_78 : decode t_X10_law.2.1 78 = .ok (.iconst 0, 1) := by decide +kernel
theorem dX10_law_79 : decode t_X10_law.2.1 79 = .ok (.bipush 7, 2) := by decide +kernel
theorem dX10_law_81 : decode t_X10_law.2.1 81 = .ok (.invokestatic 97, 3) := by decide +kernel
theorem iX10_law_81 : wm_is t_X10_law t_X10_in 81 := ⟨97, wd_1248, dX10_law_81⟩
theorem dX10_law_84 : decode t_X10_law.2.1 84 = .ok (.ifCond .eq 7, 3) := by decide +kernel
theorem dX10_law_87 : decode t_X10_law.2.1 87 = .ok (.iconst 1, 1) := by decide +kernel
theorem dX10_law_88 : decode t_X10_law.2.1 88 = .ok (.goto 4, 3) := by decide +kernel
theorem dX10_law_91 : decode t_X10_law.2.1 91 = .ok (.iconst 0, 1) := by decide +kernel
theorem dX10_law_92 : decode t_X10_law.2.1 92 = .ok (.istore_n 3, 1) := by decide +kernel
theorem dX10_law_93 : decode t_X10_law.2.1 93 = .ok (.iinc 4 1, 3) := by decide +kernel
theorem dX10_law_96 : decode t_X10_law.2.1 96 = .ok (.goto (-40), 3) := by decide +kernel
theorem dX10_law_99 : decode t_X10_law.2.1 99 = .ok (.iload_n 3, 1) := by decide +kernel
theorem dX10_law_100 : decode t_X10_law.2.1 100 = .ok (.ifCond .ne 9, 3) := by decide +kernel
theorem dX10_law_103 : decode t_X10_law.2.1 103 = .ok (.aload_n 0, 1) := by decide +kernel
theorem dX10_law_104 : decode t_X10_law.2.1 104 = .ok (.iconst 3, 1) := by decide +kernel
theorem dX10_law_105 : decode t_X10_law.2.1 105 = .ok (.invokevirtual 111, 3) := by decide +kernel
theorem iX10_law_105 : wm_iv t_X10_law t_X10_meets 105 := ⟨111, wd_1270, dX10_law_105⟩
theorem dX10_law_108 : decode t_X10_law.2.1 108 = .ok (.ireturn, 1) := by decide +kernel
theorem dX10_law_109 : decode t_X10_law.2.1 109 = .ok (.aload_n 0, 1) := by decide +kernel
theorem dX10_law_110 : decode t_X10_law.2.1 110 = .ok (.getfield 47, 3) := by decide +kernel
theorem wd_1139 : Cond.fieldLink RX10 47 "TurnedStonesModel" "lawSize" "[I" ∈ lw_gd := List.mem_filter.mpr ⟨List.mem_of_getElem? (i := 1139) (by decide +kernel), by decide +kernel⟩
theorem gX10_law_110 : wm_gf t_X10_law 110 10 25 := ⟨_, _, _, 47, rfl, by decide, wd_1139, dX10_law_110⟩
theorem dX10_law_113 : decode t_X10_law.2.1 113 = .ok (.iload_n 1, 1) := by decide +kernel
theorem dX10_law_114 : decode t_X10_law.2.1 114 = .ok (.aload_n 0, 1) := by decide +kernel
theorem dX10_law_115 : decode t_X10_law.2.1 115 = .ok (.getfield 13, 3) := by decide +kernel
theorem gX10_law_115 : wm_gf t_X10_law 115 10 5 := ⟨_, _, _, 13, rfl, by decide, wd_1119, dX10_law_115⟩
theorem dX10_law_118 : decode t_X10_law.2.1 118 = .ok (.iload_n 2, 1) := by decide +kernel
theorem dX10_law_119 : decode t_X10_law.2.1 119 = .ok (.iaload, 1) := by decide +kernel
theorem dX10_law_120 : decode t_X10_law.2.1 120 = .ok (.iastore, 1) := by decide +kernel
theorem dX10_law_121 : decode t_X10_law.2.1 121 = .ok (.iconst 0, 1) := by decide +kernel
theorem dX10_law_122 : decode t_X10_law.2.1 122 = .ok (.istore 4, 2) := by decide +kernel
theorem dX10_law_124 : decode t_X10_law.2.1 124 = .ok (.iload 4, 2) := by decide +kernel
theorem dX10_law_126 : decode t_X10_law.2.1 126 = .ok (.iconst 3, 1) := by decide +kernel
theorem dX10_law_127 : decode t_X10_law.2.1 127 = .ok (.if_icmp .ge 42, 3) := by decide +kernel
theorem dX10_law_130 : decode t_X10_law.2.1 130 = .ok (.aload_n 0, 1) := by decide +kernel
theorem dX10_law_131 : decode t_X10_law.2.1 131 = .ok (.getfield 50, 3) := by decide +kernel
theorem wd_1140 : Cond.fieldLink RX10 50 "TurnedStonesModel" "lawWords" "[I" ∈ lw_gd := List.mem_filter.mpr ⟨List.mem_of_getElem? (i := 1140) (by decide +kernel), by decide +kernel⟩
theorem gX10_law_131 : wm_gf t_X10_law 131 10 26 := ⟨_, _, _, 50, rfl, by decide, wd_1140, dX10_law_131⟩
theorem dX10_law_134 : decode t_X10_law.2.1 134 = .ok (.iconst 3, 1) := by decide +kernel
theorem dX10_law_135 : decode t_X10_law.2.1 135 = .ok (.iload_n 1, 1) := by decide +kernel
theorem dX10_law_136 : decode t_X10_law.2.1 136 = .ok (.imul, 1) := by decide +kernel
theorem dX10_law_137 : decode t_X10_law.2.1 137 = .ok (.iload 4, 2) := by decide +kernel
theorem dX10_law_139 : decode t_X10_law.2.1 139 = .ok (.iadd, 1) := by decide +kernel
theorem dX10_law_140 : decode t_X10_law.2.1 140 = .ok (.iload 4, 2) := by decide +kernel
theorem dX10_law_142 : decode t_X10_law.2.1 142 = .ok (.aload_n 0, 1) := by decide +kernel
theorem dX10_law_143 : decode t_X10_law.2.1 143 = .ok (.getfield 13, 3) := by decide +kernel
theorem gX10_law_143 : wm_gf t_X10_law 143 10 5 := ⟨_, _, _, 13, rfl, by decide, wd_1119, dX10_law_143⟩
theorem dX10_law_146 : decode t_X10_law.2.1 146 = .ok (.iload_n 2, 1) := by decide +kernel
theorem dX10_law_147 : decode t_X10_law.2.1 147 = .ok (.iaload, 1) := by decide +kernel
theorem dX10_law_148 : decode t_X10_law.2.1 148 = .ok (.if_icmp .ge 13, 3) := by decide +kernel
theorem dX10_law_151 : decode t_X10_law.2.1 151 = .ok (.aload_n 0, 1) := by decide +kernel
theorem dX10_law_152 : decode t_X10_law.2.1 152 = .ok (.iload_n 2, 1) := by decide +kernel
theorem dX10_law_153 : decode t_X10_law.2.1 153 = .ok (.iload 4, 2) := by decide +kernel
theorem dX10_law_155 : decode t_X10_law.2.1 155 = .ok (.invokevirtual 115, 3) := by decide +kernel
theorem iX10_law_155 : wm_iv t_X10_law t_X10_rowAt 155 := ⟨115, wd_1278, dX10_law_155⟩
theorem dX10_law_158 : decode t_X10_law.2.1 158 = .ok (.goto 4, 3) := by decide +kernel
theorem dX10_law_161 : decode t_X10_law.2.1 161 = .ok (.iconst 0, 1) := by decide +kernel
theorem dX10_law_162 : decode t_X10_law.2.1 162 = .ok (.iastore, 1) := by decide +kernel
theorem dX10_law_163 : decode t_X10_law.2.1 163 = .ok (.iinc 4 1, 3) := by decide +kernel
theorem dX10_law_166 : decode t_X10_law.2.1 166 = .ok (.goto (-42), 3) := by decide +kernel
theorem dX10_law_169 : decode t_X10_law.2.1 169 = .ok (.aload_n 0, 1) := by decide +kernel
theorem dX10_law_170 : decode t_X10_law.2.1 170 = .ok (.getfield 13, 3) := by decide +kernel
theorem gX10_law_170 : wm_gf t_X10_law 170 10 5 := ⟨_, _, _, 13, rfl, by decide, wd_1119, dX10_law_170⟩
theorem dX10_law_173 : decode t_X10_law.2.1 173 = .ok (.iload_n 2, 1) := by decide +kernel
theorem dX10_law_174 : decode t_X10_law.2.1 174 = .ok (.iaload, 1) := by decide +kernel
theorem dX10_law_175 : decode t_X10_law.2.1 175 = .ok (.ireturn, 1) := by decide +kernel
theorem wd_1392 : Cond.code yX10_layNow cX10_layNow 2 (none) ∈ lw_gd := List.mem_filter.mpr ⟨List.mem_of_getElem? (i := 1392) (by decide +kernel), by decide +kernel⟩
theorem wd_1391 : Cond.instanceMethod yX10_layNow ∈ lw_gd := List.mem_filter.mpr ⟨List.mem_of_getElem? (i := 1391) (by decide +kernel), by decide +kernel⟩
theorem wd_47 : Cond.selects RX10 yX10_layNow yX10_layNow ∈ lw_gd := List.mem_filter.mpr ⟨List.mem_of_getElem? (i := 47) (by decide +kernel), by decide +kernel⟩
theorem vX10_layNow : wm_calV t_X10_layNow 0 := ⟨⟨wd_1392, wd_88, by decide +kernel, by decide +kernel, by decide +kernel⟩, wd_1391, wd_47⟩
theorem dX10_layNow_0 : decode t_X10_layNow.2.1 0 = .ok (.iconst 0, 1) := by decide +kernel
theorem dX10_layNow_1 : decode t_X10_layNow.2.1 1 = .ok (.istore_n 1, 1) := by decide +kernel
theorem dX10_layNow_2 : decode t_X10_layNow.2.1 2 = .ok (.iload_n 1, 1) := by decide +kernel
theorem dX10_layNow_3 : decode t_X10_layNow.2.1 3 = .ok (.aload_n 0, 1) := by decide +kernel
theorem dX10_layNow_4 : decode t_X10_layNow.2.1 4 = .ok (.getfield 164, 3) := by decide +kernel
theorem gX10_layNow_4 : wm_gf t_X10_layNow 4 10 12 := ⟨_, _, _, 164, rfl, by decide, wd_1126, dX10_layNow_4⟩
theorem dX10_layNow_7 : decode t_X10_layNow.2.1 7 = .ok (.if_icmp .ge 21, 3) := by decide +kernel
theorem dX10_layNow_10 : decode t_X10_layNow.2.1 10 = .ok (.aload_n 0, 1) := by decide +kernel
theorem dX10_layNow_11 : decode t_X10_layNow.2.1 11 = .ok (.getfield 53, 3) := by decide +kernel
theorem wd_1141 : Cond.fieldLink RX10 53 "TurnedStonesModel" "laid" "[I" ∈ lw_gd := List.mem_filter.mpr ⟨List.mem_of_getElem? (i := 1141) (by decide +kernel), by decide +kernel⟩
theorem gX10_layNow_11 : wm_gf t_X10_layNow 11 10 27 := ⟨_, _, _, 53, rfl, by decide, wd_1141, dX10_layNow_11⟩
theorem dX10_layNow_14 : decode t_X10_layNow.2.1 14 = .ok (.iload_n 1, 1) := by decide +kernel
theorem dX10_layNow_15 : decode t_X10_layNow.2.1 15 = .ok (.aload_n 0, 1) := by decide +kernel
theorem dX10_layNow_16 : decode t_X10_layNow.2.1 16 = .ok (.getfield 41, 3) := by decide +kernel
theorem gX10_layNow_16 : wm_gf t_X10_layNow 16 10 17 := ⟨_, _, _, 41, rfl, by decide, wd_1131, dX10_layNow_16⟩
theorem dX10_layNow_19 : decode t_X10_layNow.2.1 19 = .ok (.iload_n 1, 1) := by decide +kernel
theorem dX10_layNow_20 : decode t_X10_layNow.2.1 20 = .ok (.iaload, 1) := by decide +kernel
theorem dX10_layNow_21 : decode t_X10_layNow.2.1 21 = .ok (.iastore, 1) := by decide +kernel
theorem dX10_layNow_22 : decode t_X10_layNow.2.1 22 = .ok (.iinc 1 1, 3) := by decide +kernel
theorem dX10_layNow_25 : decode t_X10_layNow.2.1 25 = .ok (.goto (-23), 3) := by decide +kernel
theorem dX10_layNow_28 : decode t_X10_layNow.2.1 28 = .ok (.return_, 1) := by decide +kernel
theorem wd_1503 : Cond.code yX10_layState cX10_layState 3 (none) ∈ lw_gd := List.mem_filter.mpr ⟨List.mem_of_getElem? (i := 1503) (by decide +kernel), by decide +kernel⟩
theorem wd_1502 : Cond.instanceMethod yX10_layState ∈ lw_gd := List.mem_filter.mpr ⟨List.mem_of_getElem? (i := 1502) (by decide +kernel), by decide +kernel⟩
theorem wd_66 : Cond.selects RX10 yX10_layState yX10_layState ∈ lw_gd := List.mem_filter.mpr ⟨List.mem_of_getElem? (i := 66) (by decide +kernel), by decide +kernel⟩
theorem vX10_layState : wm_calV t_X10_layState 1 := ⟨⟨wd_1503, wd_88, by decide +kernel, by decide +kernel, by decide +kernel⟩, wd_1502, wd_66⟩
theorem dX10_layState_0 : decode t_X10_layState.2.1 0 = .ok (.iconst 0, 1) := by decide +kernel
theorem dX10_layState_1 : decode t_X10_layState.2.1 1 = .ok (.istore_n 2, 1) := by decide +kernel
theorem dX10_layState_2 : decode t_X10_layState.2.1 2 = .ok (.iload_n 2, 1) := by decide +kernel
theorem dX10_layState_3 : decode t_X10_layState.2.1 3 = .ok (.aload_n 0, 1) := by decide +kernel
theorem dX10_layState_4 : decode t_X10_layState.2.1 4 = .ok (.getfield 164, 3) := by decide +kernel
theorem gX10_layState_4 : wm_gf t_X10_layState 4 10 12 := ⟨_, _, _, 164, rfl, by decide, wd_1126, dX10_layState_4⟩
theorem dX10_layState_7 : decode t_X10_layState.2.1 7 = .ok (.if_icmp .ge 22, 3) := by decide +kernel
theorem dX10_layState_10 : decode t_X10_layState.2.1 10 = .ok (.aload_n 0, 1) := by decide +kernel
theorem dX10_layState_11 : decode t_X10_layState.2.1 11 = .ok (.getfield 53, 3) := by decide +kernel
theorem gX10_layState_11 : wm_gf t_X10_layState 11 10 27 := ⟨_, _, _, 53, rfl, by decide, wd_1141, dX10_layState_11⟩
theorem dX10_layState_14 : decode t_X10_layState.2.1 14 = .ok (.iload_n 2, 1) := by decide +kernel
theorem dX10_layState_15 : decode t_X10_layState.2.1 15 = .ok (.iload_n 1, 1) := by decide +kernel
theorem dX10_layState_16 : decode t_X10_layState.2.1 16 = .ok (.iconst 2, 1) := by decide +kernel
theorem dX10_layState_17 : decode t_X10_layState.2.1 17 = .ok (.iload_n 2, 1) := by decide +kernel
theorem dX10_layState_18 : decode t_X10_layState.2.1 18 = .ok (.imul, 1) := by decide +kernel
theorem dX10_layState_19 : decode t_X10_layState.2.1 19 = .ok (.ishr, 1) := by decide +kernel
theorem dX10_layState_20 : decode t_X10_layState.2.1 20 = .ok (.iconst 3, 1) := by decide +kernel
theorem dX10_layState_21 : decode t_X10_layState.2.1 21 = .ok (.iand, 1) := by decide +kernel
theorem dX10_layState_22 : decode t_X10_layState.2.1 22 = .ok (.iastore, 1) := by decide +kernel
theorem dX10_layState_23 : decode t_X10_layState.2.1 23 = .ok (.iinc 2 1, 3) := by decide +kernel
theorem dX10_layState_26 : decode t_X10_layState.2.1 26 = .ok (.goto (-24), 3) := by decide +kernel
theorem dX10_layState_29 : decode t_X10_layState.2.1 29 = .ok (.return_, 1) := by decide +kernel
theorem wd_1388 : Cond.code yX10_streetMany cX10_streetMany 1 (some .int) ∈ lw_gd := List.mem_filter.mpr ⟨List.mem_of_getElem? (i := 1388) (by decide +kernel), by decide +kernel⟩
theorem wd_1387 : Cond.instanceMethod yX10_streetMany ∈ lw_gd := List.mem_filter.mpr ⟨List.mem_of_getElem? (i := 1387) (by decide +kernel), by decide +kernel⟩
theorem wd_46 : Cond.selects RX10 yX10_streetMany yX10_streetMany ∈ lw_gd := List.mem_filter.mpr ⟨List.mem_of_getElem? (i := 46) (by decide +kernel), by decide +kernel⟩
theorem vX10_streetMany : wm_calV t_X10_streetMany 0 := ⟨⟨wd_1388, wd_88, by decide +kernel, by decide +kernel, by decide +kernel⟩, wd_1387, wd_46⟩
theorem dX10_streetMany_0 : decode t_X10_streetMany.2.1 0 = .ok (.aload_n 0, 1) := by decide +kernel
theorem dX10_streetMany_1 : decode t_X10_streetMany.2.1 1 = .ok (.getfield 158, 3) := by decide +kernel
theorem gX10_streetMany_1 : wm_gf t_X10_streetMany 1 10 10 := ⟨_, _, _, 158, rfl, by decide, wd_1124, dX10_streetMany_1⟩
theorem dX10_streetMany_4 : decode t_X10_streetMany.2.1 4 = .ok (.aload_n 0, 1) := by decide +kernel
theorem dX10_streetMany_5 : decode t_X10_streetMany.2.1 5 = .ok (.getfield 161, 3) := by decide +kernel
theorem gX10_streetMany_5 : wm_gf t_X10_streetMany 5 10 11 := ⟨_, _, _, 161, rfl, by decide, wd_1125, dX10_streetMany_5⟩
theorem dX10_streetMany_8 : decode t_X10_streetMany.2.1 8 = .ok (.iadd, 1) := by decide +kernel
theorem dX10_streetMany_9 : decode t_X10_streetMany.2.1 9 = .ok (.ireturn, 1) := by decide +kernel
theorem wd_1384 : Cond.code yX10_isStreet cX10_isStreet 2 (some .boolean) ∈ lw_gd := List.mem_filter.mpr ⟨List.mem_of_getElem? (i := 1384) (by decide +kernel), by decide +kernel⟩
theorem wd_1383 : Cond.instanceMethod yX10_isStreet ∈ lw_gd := List.mem_filter.mpr ⟨List.mem_of_getElem? (i := 1383) (by decide +kernel), by decide +kernel⟩
theorem wd_45 : Cond.selects RX10 yX10_isStreet yX10_isStreet ∈ lw_gd := List.mem_filter.mpr ⟨List.mem_of_getElem? (i := 45) (by decide +kernel), by decide +kernel⟩
theorem vX10_isStreet : wm_calV t_X10_isStreet 1 := ⟨⟨wd_1384, wd_88, by decide +kernel, by decide +kernel, by decide +kernel⟩, wd_1383, wd_45⟩
theorem dX10_isStreet_0 : decode t_X10_isStreet.2.1 0 = .ok (.iload_n 1, 1) := by decide +kernel
theorem dX10_isStreet_1 : decode t_X10_isStreet.2.1 1 = .ok (.iconst 0, 1) := by decide +kernel
theorem dX10_isStreet_2 : decode t_X10_isStreet.2.1 2 = .ok (.aload_n 0, 1) := by decide +kernel
theorem dX10_isStreet_3 : decode t_X10_isStreet.2.1 3 = .ok (.invokevirtual 192, 3) := by decide +kernel
theorem wd_1385 : Cond.methodLink RX10 192 yX10_streetMany ∈ lw_gd := List.mem_filter.mpr ⟨List.mem_of_getElem? (i := 1385) (by decide +kernel), by decide +kernel⟩
theorem iX10_isStreet_3 : wm_iv t_X10_isStreet t_X10_streetMany 3 := ⟨192, wd_1385, dX10_isStreet_3⟩
theorem dX10_isStreet_6 : decode t_X10_isStreet.2.1 6 = .ok (.iconst 1, 1) := by decide +kernel
theorem dX10_isStreet_7 : decode t_X10_isStreet.2.1 7 = .ok (.isub, 1) := by decide +kernel
theorem dX10_isStreet_8 : decode t_X10_isStreet.2.1 8 = .ok (.invokestatic 97, 3) := by decide +kernel
theorem iX10_isStreet_8 : wm_is t_X10_isStreet t_X10_in 8 := ⟨97, wd_1248, dX10_isStreet_8⟩
theorem dX10_isStreet_11 : decode t_X10_isStreet.2.1 11 = .ok (.ireturn, 1) := by decide +kernel
theorem wd_1396 : Cond.code yX10_longOf cX10_longOf 2 (some .int) ∈ lw_gd := List.mem_filter.mpr ⟨List.mem_of_getElem? (i := 1396) (by decide +kernel), by decide +kernel⟩
theorem wd_1395 : Cond.instanceMethod yX10_longOf ∈ lw_gd := List.mem_filter.mpr ⟨List.mem_of_getElem? (i := 1395) (by decide +kernel), by decide +kernel⟩
theorem wd_48 : Cond.selects RX10 yX10_longOf yX10_longOf ∈ lw_gd := List.mem_filter.mpr ⟨List.mem_of_getElem? (i := 48) (by decide +kernel), by decide +kernel⟩
theorem vX10_longOf : wm_calV t_X10_longOf 1 := ⟨⟨wd_1396, wd_88, by decide +kernel, by decide +kernel, by decide +kernel⟩, wd_1395, wd_48⟩
theorem dX10_longOf_0 : decode t_X10_longOf.2.1 0 = .ok (.iload_n 1, 1) := by decide +kernel
theorem dX10_longOf_1 : decode t_X10_longOf.2.1 1 = .ok (.aload_n 0, 1) := by decide +kernel
theorem dX10_longOf_2 : decode t_X10_longOf.2.1 2 = .ok (.getfield 161, 3) := by decide +kernel
theorem gX10_longOf_2 : wm_gf t_X10_longOf 2 10 11 := ⟨_, _, _, 161, rfl, by decide, wd_1125, dX10_longOf_2⟩
theorem dX10_longOf_5 : decode t_X10_longOf.2.1 5 = .ok (.if_icmp .ge 10, 3) := by decide +kernel
theorem dX10_longOf_8 : decode t_X10_longOf.2.1 8 = .ok (.aload_n 0, 1) := by decide +kernel
theorem dX10_longOf_9 : decode t_X10_longOf.2.1 9 = .ok (.getfield 158, 3) := by decide +kernel
theorem gX10_longOf_9 : wm_gf t_X10_longOf 9 10 10 := ⟨_, _, _, 158, rfl, by decide, wd_1124, dX10_longOf_9⟩
theorem dX10_longOf_12 : decode t_X10_longOf.2.1 12 = .ok (.goto 7, 3) := by decide +kernel
theorem dX10_longOf_15 : decode t_X10_longOf.2.1 15 = .ok (.aload_n 0, 1) := by decide +kernel
theorem dX10_longOf_16 : decode t_X10_longOf.2.1 16 = .ok (.getfield 161, 3) := by decide +kernel
theorem gX10_longOf_16 : wm_gf t_X10_longOf 16 10 11 := ⟨_, _, _, 161, rfl, by decide, wd_1125, dX10_longOf_16⟩
theorem dX10_longOf_19 : decode t_X10_longOf.2.1 19 = .ok (.ireturn, 1) := by decide +kernel
theorem wd_1404 : Cond.code yX10_stoneAt cX10_stoneAt 5 (some .int) ∈ lw_gd := List.mem_filter.mpr ⟨List.mem_of_getElem? (i := 1404) (by decide +kernel), by decide +kernel⟩
theorem wd_1403 : Cond.instanceMethod yX10_stoneAt ∈ lw_gd := List.mem_filter.mpr ⟨List.mem_of_getElem? (i := 1403) (by decide +kernel), by decide +kernel⟩
theorem wd_50 : Cond.selects RX10 yX10_stoneAt yX10_stoneAt ∈ lw_gd := List.mem_filter.mpr ⟨List.mem_of_getElem? (i := 50) (by decide +kernel), by decide +kernel⟩
theorem vX10_stoneAt : wm_calV t_X10_stoneAt 3 := ⟨⟨wd_1404, wd_88, by decide +kernel, by decide +kernel, by decide +kernel⟩, wd_1403, wd_50⟩
theorem dX10_stoneAt_0 : decode t_X10_stoneAt.2.1 0 = .ok (.iload_n 2, 1) := by decide +kernel
theorem dX10_stoneAt_1 : decode t_X10_stoneAt.2.1 1 = .ok (.ifCond .ne 7, 3) := by decide +kernel
theorem dX10_stoneAt_4 : decode t_X10_stoneAt.2.1 4 = .ok (.iload_n 3, 1) := by decide +kernel
theorem dX10_stoneAt_5 : decode t_X10_stoneAt.2.1 5 = .ok (.goto 12, 3) := by decide +kernel
theorem dX10_stoneAt_8 : decode t_X10_stoneAt.2.1 8 = .ok (.aload_n 0, 1) := by decide +kernel
theorem dX10_stoneAt_9 : decode t_X10_stoneAt.2.1 9 = .ok (.iload_n 1, 1) := by decide +kernel
theorem dX10_stoneAt_10 : decode t_X10_stoneAt.2.1 10 = .ok (.invokevirtual 196, 3) := by decide +kernel
theorem wd_1393 : Cond.methodLink RX10 196 yX10_longOf ∈ lw_gd := List.mem_filter.mpr ⟨List.mem_of_getElem? (i := 1393) (by decide +kernel), by decide +kernel⟩
theorem iX10_stoneAt_10 : wm_iv t_X10_stoneAt t_X10_longOf 10 := ⟨196, wd_1393, dX10_stoneAt_10⟩
theorem dX10_stoneAt_13 : decode t_X10_stoneAt.2.1 13 = .ok (.iconst 1, 1) := by decide +kernel
theorem dX10_stoneAt_14 : decode t_X10_stoneAt.2.1 14 = .ok (.isub, 1) := by decide +kernel
theorem dX10_stoneAt_15 : decode t_X10_stoneAt.2.1 15 = .ok (.iload_n 3, 1) := by decide +kernel
theorem dX10_stoneAt_16 : decode t_X10_stoneAt.2.1 16 = .ok (.isub, 1) := by decide +kernel
theorem dX10_stoneAt_17 : decode t_X10_stoneAt.2.1 17 = .ok (.istore 4, 2) := by decide +kernel
theorem dX10_stoneAt_19 : decode t_X10_stoneAt.2.1 19 = .ok (.iload_n 1, 1) := by decide +kernel
theorem dX10_stoneAt_20 : decode t_X10_stoneAt.2.1 20 = .ok (.aload_n 0, 1) := by decide +kernel
theorem dX10_stoneAt_21 : decode t_X10_stoneAt.2.1 21 = .ok (.getfield 161, 3) := by decide +kernel
theorem gX10_stoneAt_21 : wm_gf t_X10_stoneAt 21 10 11 := ⟨_, _, _, 161, rfl, by decide, wd_1125, dX10_stoneAt_21⟩
theorem dX10_stoneAt_24 : decode t_X10_stoneAt.2.1 24 = .ok (.if_icmp .ge 15, 3) := by decide +kernel
theorem dX10_stoneAt_27 : decode t_X10_stoneAt.2.1 27 = .ok (.aload_n 0, 1) := by decide +kernel
theorem dX10_stoneAt_28 : decode t_X10_stoneAt.2.1 28 = .ok (.getfield 158, 3) := by decide +kernel
theorem gX10_stoneAt_28 : wm_gf t_X10_stoneAt 28 10 10 := ⟨_, _, _, 158, rfl, by decide, wd_1124, dX10_stoneAt_28⟩
theorem dX10_stoneAt_31 : decode t_X10_stoneAt.2.1 31 = .ok (.iload_n 1, 1) := by decide +kernel
theorem dX10_stoneAt_32 : decode t_X10_stoneAt.2.1 32 = .ok (.imul, 1) := by decide +kernel
theorem dX10_stoneAt_33 : decode t_X10_stoneAt.2.1 33 = .ok (.iload 4, 2) := by decide +kernel
theorem dX10_stoneAt_35 : decode t_X10_stoneAt.2.1 35 = .ok (.iadd, 1) := by decide +kernel
theorem dX10_stoneAt_36 : decode t_X10_stoneAt.2.1 36 = .ok (.goto 17, 3) := by decide +kernel
theorem dX10_stoneAt_39 : decode t_X10_stoneAt.2.1 39 = .ok (.aload_n 0, 1) := by decide +kernel
theorem dX10_stoneAt_40 : decode t_X10_stoneAt.2.1 40 = .ok (.getfield 158, 3) := by decide +kernel
theorem gX10_stoneAt_40 : wm_gf t_X10_stoneAt 40 10 10 := ⟨_, _, _, 158, rfl, by decide, wd_1124, dX10_stoneAt_40⟩
theorem dX10_stoneAt_43 : decode t_X10_stoneAt.2.1 43 = .ok (.iload 4, 2) := by decide +kernel
theorem dX10_stoneAt_45 : decode t_X10_stoneAt.2.1 45 = .ok (.imul, 1) := by decide +kernel
theorem dX10_stoneAt_46 : decode t_X10_stoneAt.2.1 46 = .ok (.iload_n 1, 1) := by decide +kernel
theorem dX10_stoneAt_47 : decode t_X10_stoneAt.2.1 47 = .ok (.iadd, 1) := by decide +kernel
theorem dX10_stoneAt_48 : decode t_X10_stoneAt.2.1 48 = .ok (.aload_n 0, 1) := by decide +kernel
theorem dX10_stoneAt_49 : decode t_X10_stoneAt.2.1 49 = .ok (.getfield 161, 3) := by decide +kernel
theorem gX10_stoneAt_49 : wm_gf t_X10_stoneAt 49 10 11 := ⟨_, _, _, 161, rfl, by decide, wd_1125, dX10_stoneAt_49⟩
theorem dX10_stoneAt_52 : decode t_X10_stoneAt.2.1 52 = .ok (.isub, 1) := by decide +kernel
theorem dX10_stoneAt_53 : decode t_X10_stoneAt.2.1 53 = .ok (.ireturn, 1) := by decide +kernel
theorem wd_1408 : Cond.code yX10_sideAt cX10_sideAt 5 (some .int) ∈ lw_gd := List.mem_filter.mpr ⟨List.mem_of_getElem? (i := 1408) (by decide +kernel), by decide +kernel⟩
theorem wd_1407 : Cond.instanceMethod yX10_sideAt ∈ lw_gd := List.mem_filter.mpr ⟨List.mem_of_getElem? (i := 1407) (by decide +kernel), by decide +kernel⟩
theorem wd_51 : Cond.selects RX10 yX10_sideAt yX10_sideAt ∈ lw_gd := List.mem_filter.mpr ⟨List.mem_of_getElem? (i := 51) (by decide +kernel), by decide +kernel⟩
theorem vX10_sideAt : wm_calV t_X10_sideAt 3 := ⟨⟨wd_1408, wd_88, by decide +kernel, by decide +kernel, by decide +kernel⟩, wd_1407, wd_51⟩
theorem dX10_sideAt_0 : decode t_X10_sideAt.2.1 0 = .ok (.iload_n 1, 1) := by decide +kernel
theorem dX10_sideAt_1 : decode t_X10_sideAt.2.1 1 = .ok (.aload_n 0, 1) := by decide +kernel
theorem dX10_sideAt_2 : decode t_X10_sideAt.2.1 2 = .ok (.getfield 161, 3) := by decide +kernel
theorem gX10_sideAt_2 : wm_gf t_X10_sideAt 2 10 11 := ⟨_, _, _, 161, rfl, by decide, wd_1125, dX10_sideAt_2⟩
theorem dX10_sideAt_5 : decode t_X10_sideAt.2.1 5 = .ok (.if_icmp .ge 9, 3) := by decide +kernel
theorem dX10_sideAt_8 : decode t_X10_sideAt.2.1 8 = .ok (.iconst 2, 1) := by decide +kernel
theorem dX10_sideAt_9 : decode t_X10_sideAt.2.1 9 = .ok (.iload_n 2, 1) := by decide +kernel
theorem dX10_sideAt_10 : decode t_X10_sideAt.2.1 10 = .ok (.imul, 1) := by decide +kernel
theorem dX10_sideAt_11 : decode t_X10_sideAt.2.1 11 = .ok (.goto 8, 3) := by decide +kernel
theorem dX10_sideAt_14 : decode t_X10_sideAt.2.1 14 = .ok (.iconst 1, 1) := by decide +kernel
theorem dX10_sideAt_15 : decode t_X10_sideAt.2.1 15 = .ok (.iconst 2, 1) := by decide +kernel
theorem dX10_sideAt_16 : decode t_X10_sideAt.2.1 16 = .ok (.iload_n 2, 1) := by decide +kernel
theorem dX10_sideAt_17 : decode t_X10_sideAt.2.1 17 = .ok (.imul, 1) := by decide +kernel
theorem dX10_sideAt_18 : decode t_X10_sideAt.2.1 18 = .ok (.iadd, 1) := by decide +kernel
theorem dX10_sideAt_19 : decode t_X10_sideAt.2.1 19 = .ok (.istore 4, 2) := by decide +kernel
theorem dX10_sideAt_21 : decode t_X10_sideAt.2.1 21 = .ok (.aload_n 0, 1) := by decide +kernel
theorem dX10_sideAt_22 : decode t_X10_sideAt.2.1 22 = .ok (.getfield 53, 3) := by decide +kernel
theorem gX10_sideAt_22 : wm_gf t_X10_sideAt 22 10 27 := ⟨_, _, _, 53, rfl, by decide, wd_1141, dX10_sideAt_22⟩
theorem dX10_sideAt_25 : decode t_X10_sideAt.2.1 25 = .ok (.aload_n 0, 1) := by decide +kernel
theorem dX10_sideAt_26 : decode t_X10_sideAt.2.1 26 = .ok (.iload_n 1, 1) := by decide +kernel
theorem dX10_sideAt_27 : decode t_X10_sideAt.2.1 27 = .ok (.iload_n 2, 1) := by decide +kernel
theorem dX10_sideAt_28 : decode t_X10_sideAt.2.1 28 = .ok (.iload_n 3, 1) := by decide +kernel
theorem dX10_sideAt_29 : decode t_X10_sideAt.2.1 29 = .ok (.invokevirtual 199, 3) := by decide +kernel
theorem wd_1401 : Cond.methodLink RX10 199 yX10_stoneAt ∈ lw_gd := List.mem_filter.mpr ⟨List.mem_of_getElem? (i := 1401) (by decide +kernel), by decide +kernel⟩
theorem iX10_sideAt_29 : wm_iv t_X10_sideAt t_X10_stoneAt 29 := ⟨199, wd_1401, dX10_sideAt_29⟩
theorem dX10_sideAt_32 : decode t_X10_sideAt.2.1 32 = .ok (.iaload, 1) := by decide +kernel
theorem dX10_sideAt_33 : decode t_X10_sideAt.2.1 33 = .ok (.iload 4, 2) := by decide +kernel
theorem dX10_sideAt_35 : decode t_X10_sideAt.2.1 35 = .ok (.iadd, 1) := by decide +kernel
theorem dX10_sideAt_36 : decode t_X10_sideAt.2.1 36 = .ok (.iconst 4, 1) := by decide +kernel
theorem dX10_sideAt_37 : decode t_X10_sideAt.2.1 37 = .ok (.irem, 1) := by decide +kernel
theorem dX10_sideAt_38 : decode t_X10_sideAt.2.1 38 = .ok (.ireturn, 1) := by decide +kernel
theorem wd_1400 : Cond.code yX10_wordAt cX10_wordAt 5 (some .int) ∈ lw_gd := List.mem_filter.mpr ⟨List.mem_of_getElem? (i := 1400) (by decide +kernel), by decide +kernel⟩
theorem wd_1399 : Cond.instanceMethod yX10_wordAt ∈ lw_gd := List.mem_filter.mpr ⟨List.mem_of_getElem? (i := 1399) (by decide +kernel), by decide +kernel⟩
theorem wd_49 : Cond.selects RX10 yX10_wordAt yX10_wordAt ∈ lw_gd := List.mem_filter.mpr ⟨List.mem_of_getElem? (i := 49) (by decide +kernel), by decide +kernel⟩
theorem vX10_wordAt : wm_calV t_X10_wordAt 3 := ⟨⟨wd_1400, wd_88, by decide +kernel, by decide +kernel, by decide +kernel⟩, wd_1399, wd_49⟩
theorem dX10_wordAt_0 : decode t_X10_wordAt.2.1 0 = .ok (.aload_n 0, 1) := by decide +kernel
theorem dX10_wordAt_1 : decode t_X10_wordAt.2.1 1 = .ok (.iload_n 1, 1) := by decide +kernel
theorem dX10_wordAt_2 : decode t_X10_wordAt.2.1 2 = .ok (.iload_n 2, 1) := by decide +kernel
theorem dX10_wordAt_3 : decode t_X10_wordAt.2.1 3 = .ok (.iload_n 3, 1) := by decide +kernel
theorem dX10_wordAt_4 : decode t_X10_wordAt.2.1 4 = .ok (.invokevirtual 199, 3) := by decide +kernel
theorem iX10_wordAt_4 : wm_iv t_X10_wordAt t_X10_stoneAt 4 := ⟨199, wd_1401, dX10_wordAt_4⟩
theorem dX10_wordAt_7 : decode t_X10_wordAt.2.1 7 = .ok (.istore 4, 2) := by decide +kernel
theorem dX10_wordAt_9 : decode t_X10_wordAt.2.1 9 = .ok (.aload_n 0, 1) := by decide +kernel
theorem dX10_wordAt_10 : decode t_X10_wordAt.2.1 10 = .ok (.getfield 29, 3) := by decide +kernel
theorem gX10_wordAt_10 : wm_gf t_X10_wordAt 10 10 13 := ⟨_, _, _, 29, rfl, by decide, wd_1127, dX10_wordAt_10⟩
theorem dX10_wordAt_13 : decode t_X10_wordAt.2.1 13 = .ok (.iload 4, 2) := by decide +kernel
theorem dX10_wordAt_15 : decode t_X10_wordAt.2.1 15 = .ok (.iaload, 1) := by decide +kernel
theorem dX10_wordAt_16 : decode t_X10_wordAt.2.1 16 = .ok (.iconst 5, 1) := by decide +kernel
theorem dX10_wordAt_17 : decode t_X10_wordAt.2.1 17 = .ok (.if_icmp .ne 7, 3) := by decide +kernel
theorem dX10_wordAt_20 : decode t_X10_wordAt.2.1 20 = .ok (.iconst (-1), 1) := by decide +kernel
theorem dX10_wordAt_21 : decode t_X10_wordAt.2.1 21 = .ok (.goto 20, 3) := by decide +kernel
theorem dX10_wordAt_24 : decode t_X10_wordAt.2.1 24 = .ok (.aload_n 0, 1) := by decide +kernel
theorem dX10_wordAt_25 : decode t_X10_wordAt.2.1 25 = .ok (.getfield 32, 3) := by decide +kernel
theorem gX10_wordAt_25 : wm_gf t_X10_wordAt 25 10 14 := ⟨_, _, _, 32, rfl, by decide, wd_1128, dX10_wordAt_25⟩
theorem dX10_wordAt_28 : decode t_X10_wordAt.2.1 28 = .ok (.iconst 4, 1) := by decide +kernel
theorem dX10_wordAt_29 : decode t_X10_wordAt.2.1 29 = .ok (.iload 4, 2) := by decide +kernel
theorem dX10_wordAt_31 : decode t_X10_wordAt.2.1 31 = .ok (.imul, 1) := by decide +kernel
theorem dX10_wordAt_32 : decode t_X10_wordAt.2.1 32 = .ok (.aload_n 0, 1) := by decide +kernel
theorem dX10_wordAt_33 : decode t_X10_wordAt.2.1 33 = .ok (.iload_n 1, 1) := by decide +kernel
theorem dX10_wordAt_34 : decode t_X10_wordAt.2.1 34 = .ok (.iload_n 2, 1) := by decide +kernel
theorem dX10_wordAt_35 : decode t_X10_wordAt.2.1 35 = .ok (.iload_n 3, 1) := by decide +kernel
theorem dX10_wordAt_36 : decode t_X10_wordAt.2.1 36 = .ok (.invokevirtual 203, 3) := by decide +kernel
theorem wd_1405 : Cond.methodLink RX10 203 yX10_sideAt ∈ lw_gd := List.mem_filter.mpr ⟨List.mem_of_getElem? (i := 1405) (by decide +kernel), by decide +kernel⟩
theorem iX10_wordAt_36 : wm_iv t_X10_wordAt t_X10_sideAt 36 := ⟨203, wd_1405, dX10_wordAt_36⟩
theorem dX10_wordAt_39 : decode t_X10_wordAt.2.1 39 = .ok (.iadd, 1) := by decide +kernel
theorem dX10_wordAt_40 : decode t_X10_wordAt.2.1 40 = .ok (.iaload, 1) := by decide +kernel
theorem dX10_wordAt_41 : decode t_X10_wordAt.2.1 41 = .ok (.ireturn, 1) := by decide +kernel
theorem wd_1424 : Cond.code yX10_isWornAt cX10_isWornAt 5 (some .boolean) ∈ lw_gd := List.mem_filter.mpr ⟨List.mem_of_getElem? (i := 1424) (by decide +kernel), by decide +kernel⟩
theorem wd_1423 : Cond.instanceMethod yX10_isWornAt ∈ lw_gd := List.mem_filter.mpr ⟨List.mem_of_getElem? (i := 1423) (by decide +kernel), by decide +kernel⟩
theorem wd_54 : Cond.selects RX10 yX10_isWornAt yX10_isWornAt ∈ lw_gd := List.mem_filter.mpr ⟨List.mem_of_getElem? (i := 54) (by decide +kernel), by decide +kernel⟩
theorem vX10_isWornAt : wm_calV t_X10_isWornAt 3 := ⟨⟨wd_1424, wd_88, by decide +kernel, by decide +kernel, by decide +kernel⟩, wd_1423, wd_54⟩
theorem dX10_isWornAt_0 : decode t_X10_isWornAt.2.1 0 = .ok (.aload_n 0, 1) := by decide +kernel
theorem dX10_isWornAt_1 : decode t_X10_isWornAt.2.1 1 = .ok (.iload_n 1, 1) := by decide +kernel
theorem dX10_isWornAt_2 : decode t_X10_isWornAt.2.1 2 = .ok (.iload_n 2, 1) := by decide +kernel
theorem dX10_isWornAt_3 : decode t_X10_isWornAt.2.1 3 = .ok (.iload_n 3, 1) := by decide +kernel
theorem dX10_isWornAt_4 : decode t_X10_isWornAt.2.1 4 = .ok (.invokevirtual 199, 3) := by decide +kernel
theorem iX10_isWornAt_4 : wm_iv t_X10_isWornAt t_X10_stoneAt 4 := ⟨199, wd_1401, dX10_isWornAt_4⟩
theorem dX10_isWornAt_7 : decode t_X10_isWornAt.2.1 7 = .ok (.istore 4, 2) := by decide +kernel
theorem dX10_isWornAt_9 : decode t_X10_isWornAt.2.1 9 = .ok (.aload_n 0, 1) := by decide +kernel
theorem dX10_isWornAt_10 : decode t_X10_isWornAt.2.1 10 = .ok (.getfield 29, 3) := by decide +kernel
theorem gX10_isWornAt_10 : wm_gf t_X10_isWornAt 10 10 13 := ⟨_, _, _, 29, rfl, by decide, wd_1127, dX10_isWornAt_10⟩
theorem dX10_isWornAt_13 : decode t_X10_isWornAt.2.1 13 = .ok (.iload 4, 2) := by decide +kernel
theorem dX10_isWornAt_15 : decode t_X10_isWornAt.2.1 15 = .ok (.iaload, 1) := by decide +kernel
theorem dX10_isWornAt_16 : decode t_X10_isWornAt.2.1 16 = .ok (.iconst 1, 1) := by decide +kernel
theorem dX10_isWornAt_17 : decode t_X10_isWornAt.2.1 17 = .ok (.if_icmp .ne 24, 3) := by decide +kernel
theorem dX10_isWornAt_20 : decode t_X10_isWornAt.2.1 20 = .ok (.aload_n 0, 1) := by decide +kernel
theorem dX10_isWornAt_21 : decode t_X10_isWornAt.2.1 21 = .ok (.getfield 35, 3) := by decide +kernel
theorem gX10_isWornAt_21 : wm_gf t_X10_isWornAt 21 10 15 := ⟨_, _, _, 35, rfl, by decide, wd_1129, dX10_isWornAt_21⟩
theorem dX10_isWornAt_24 : decode t_X10_isWornAt.2.1 24 = .ok (.iload 4, 2) := by decide +kernel
theorem dX10_isWornAt_26 : decode t_X10_isWornAt.2.1 26 = .ok (.iaload, 1) := by decide +kernel
theorem dX10_isWornAt_27 : decode t_X10_isWornAt.2.1 27 = .ok (.aload_n 0, 1) := by decide +kernel
theorem dX10_isWornAt_28 : decode t_X10_isWornAt.2.1 28 = .ok (.iload_n 1, 1) := by decide +kernel
theorem dX10_isWornAt_29 : decode t_X10_isWornAt.2.1 29 = .ok (.iload_n 2, 1) := by decide +kernel
theorem dX10_isWornAt_30 : decode t_X10_isWornAt.2.1 30 = .ok (.iload_n 3, 1) := by decide +kernel
theorem dX10_isWornAt_31 : decode t_X10_isWornAt.2.1 31 = .ok (.invokevirtual 203, 3) := by decide +kernel
theorem iX10_isWornAt_31 : wm_iv t_X10_isWornAt t_X10_sideAt 31 := ⟨203, wd_1405, dX10_isWornAt_31⟩
theorem dX10_isWornAt_34 : decode t_X10_isWornAt.2.1 34 = .ok (.if_icmp .ne 7, 3) := by decide +kernel
theorem dX10_isWornAt_37 : decode t_X10_isWornAt.2.1 37 = .ok (.iconst 1, 1) := by decide +kernel
theorem dX10_isWornAt_38 : decode t_X10_isWornAt.2.1 38 = .ok (.goto 4, 3) := by decide +kernel
theorem dX10_isWornAt_41 : decode t_X10_isWornAt.2.1 41 = .ok (.iconst 0, 1) := by decide +kernel
theorem dX10_isWornAt_42 : decode t_X10_isWornAt.2.1 42 = .ok (.ireturn, 1) := by decide +kernel
theorem wd_1420 : Cond.code yX10_readFrom cX10_readFrom 12 (some .int) ∈ lw_gd := List.mem_filter.mpr ⟨List.mem_of_getElem? (i := 1420) (by decide +kernel), by decide +kernel⟩
theorem wd_1419 : Cond.instanceMethod yX10_readFrom ∈ lw_gd := List.mem_filter.mpr ⟨List.mem_of_getElem? (i := 1419) (by decide +kernel), by decide +kernel⟩
theorem wd_53 : Cond.selects RX10 yX10_readFrom yX10_readFrom ∈ lw_gd := List.mem_filter.mpr ⟨List.mem_of_getElem? (i := 53) (by decide +kernel), by decide +kernel⟩
theorem vX10_readFrom : wm_calV t_X10_readFrom 4 := ⟨⟨wd_1420, wd_88, by decide +kernel, by decide +kernel, by decide +kernel⟩, wd_1419, wd_53⟩
theorem dX10_readFrom_0 : decode t_X10_readFrom.2.1 0 = .ok (.iconst 1, 1) := by decide +kernel
theorem dX10_readFrom_1 : decode t_X10_readFrom.2.1 1 = .ok (.istore 5, 2) := by decide +kernel
theorem dX10_readFrom_3 : decode t_X10_readFrom.2.1 3 = .ok (.iconst 1, 1) := by decide +kernel
theorem dX10_readFrom_4 : decode t_X10_readFrom.2.1 4 = .ok (.istore 6, 2) := by decide +kernel
theorem dX10_readFrom_6 : decode t_X10_readFrom.2.1 6 = .ok (.iconst 0, 1) := by decide +kernel
theorem dX10_readFrom_7 : decode t_X10_readFrom.2.1 7 = .ok (.istore 7, 2) := by decide +kernel
theorem dX10_readFrom_9 : decode t_X10_readFrom.2.1 9 = .ok (.iconst 0, 1) := by decide +kernel
theorem dX10_readFrom_10 : decode t_X10_readFrom.2.1 10 = .ok (.istore 8, 2) := by decide +kernel
theorem dX10_readFrom_12 : decode t_X10_readFrom.2.1 12 = .ok (.iload 8, 2) := by decide +kernel
theorem dX10_readFrom_14 : decode t_X10_readFrom.2.1 14 = .ok (.aload_n 0, 1) := by decide +kernel
theorem dX10_readFrom_15 : decode t_X10_readFrom.2.1 15 = .ok (.getfield 47, 3) := by decide +kernel
theorem gX10_readFrom_15 : wm_gf t_X10_readFrom 15 10 25 := ⟨_, _, _, 47, rfl, by decide, wd_1139, dX10_readFrom_15⟩
theorem dX10_readFrom_18 : decode t_X10_readFrom.2.1 18 = .ok (.iload_n 1, 1) := by decide +kernel
theorem dX10_readFrom_19 : decode t_X10_readFrom.2.1 19 = .ok (.iaload, 1) := by decide +kernel
theorem dX10_readFrom_20 : decode t_X10_readFrom.2.1 20 = .ok (.if_icmp .ge 144, 3) := by decide +kernel
theorem dX10_readFrom_23 : decode t_X10_readFrom.2.1 23 = .ok (.aload_n 0, 1) := by decide +kernel
theorem dX10_readFrom_24 : decode t_X10_readFrom.2.1 24 = .ok (.iload_n 2, 1) := by decide +kernel
theorem dX10_readFrom_25 : decode t_X10_readFrom.2.1 25 = .ok (.iload_n 3, 1) := by decide +kernel
theorem dX10_readFrom_26 : decode t_X10_readFrom.2.1 26 = .ok (.iload 4, 2) := by decide +kernel
theorem dX10_readFrom_28 : decode t_X10_readFrom.2.1 28 = .ok (.iload 8, 2) := by decide +kernel
theorem dX10_readFrom_30 : decode t_X10_readFrom.2.1 30 = .ok (.iadd, 1) := by decide +kernel
theorem dX10_readFrom_31 : decode t_X10_readFrom.2.1 31 = .ok (.invokevirtual 206, 3) := by decide +kernel
theorem wd_1397 : Cond.methodLink RX10 206 yX10_wordAt ∈ lw_gd := List.mem_filter.mpr ⟨List.mem_of_getElem? (i := 1397) (by decide +kernel), by decide +kernel⟩
theorem iX10_readFrom_31 : wm_iv t_X10_readFrom t_X10_wordAt 31 := ⟨206, wd_1397, dX10_readFrom_31⟩
theorem dX10_readFrom_34 : decode t_X10_readFrom.2.1 34 = .ok (.istore 9, 2) := by decide +kernel
theorem dX10_readFrom_36 : decode t_X10_readFrom.2.1 36 = .ok (.iload 9, 2) := by decide +kernel
theorem dX10_readFrom_38 : decode t_X10_readFrom.2.1 38 = .ok (.aload_n 0, 1) := by decide +kernel
theorem dX10_readFrom_39 : decode t_X10_readFrom.2.1 39 = .ok (.getfield 50, 3) := by decide +kernel
theorem gX10_readFrom_39 : wm_gf t_X10_readFrom 39 10 26 := ⟨_, _, _, 50, rfl, by decide, wd_1140, dX10_readFrom_39⟩
theorem dX10_readFrom_42 : decode t_X10_readFrom.2.1 42 = .ok (.iconst 3, 1) := by decide +kernel
theorem dX10_readFrom_43 : decode t_X10_readFrom.2.1 43 = .ok (.iload_n 1, 1) := by decide +kernel
theorem dX10_readFrom_44 : decode t_X10_readFrom.2.1 44 = .ok (.imul, 1) := by decide +kernel
theorem dX10_readFrom_45 : decode t_X10_readFrom.2.1 45 = .ok (.iload 8, 2) := by decide +kernel
theorem dX10_readFrom_47 : decode t_X10_readFrom.2.1 47 = .ok (.iadd, 1) := by decide +kernel
theorem dX10_readFrom_48 : decode t_X10_readFrom.2.1 48 = .ok (.iaload, 1) := by decide +kernel
theorem dX10_readFrom_49 : decode t_X10_readFrom.2.1 49 = .ok (.if_icmp .ne 7, 3) := by decide +kernel
theorem dX10_readFrom_52 : decode t_X10_readFrom.2.1 52 = .ok (.iconst 1, 1) := by decide +kernel
theorem dX10_readFrom_53 : decode t_X10_readFrom.2.1 53 = .ok (.goto 4, 3) := by decide +kernel
theorem dX10_readFrom_56 : decode t_X10_readFrom.2.1 56 = .ok (.iconst 0, 1) := by decide +kernel
theorem dX10_readFrom_57 : decode t_X10_readFrom.2.1 57 = .ok (.istore 10, 2) := by decide +kernel
theorem dX10_readFrom_59 : decode t_X10_readFrom.2.1 59 = .ok (.aload_n 0, 1) := by decide +kernel
theorem dX10_readFrom_60 : decode t_X10_readFrom.2.1 60 = .ok (.iload_n 2, 1) := by decide +kernel
theorem dX10_readFrom_61 : decode t_X10_readFrom.2.1 61 = .ok (.iload_n 3, 1) := by decide +kernel
theorem dX10_readFrom_62 : decode t_X10_readFrom.2.1 62 = .ok (.iload 4, 2) := by decide +kernel
theorem dX10_readFrom_64 : decode t_X10_readFrom.2.1 64 = .ok (.iload 8, 2) := by decide +kernel
theorem dX10_readFrom_66 : decode t_X10_readFrom.2.1 66 = .ok (.iadd, 1) := by decide +kernel
theorem dX10_readFrom_67 : decode t_X10_readFrom.2.1 67 = .ok (.invokevirtual 209, 3) := by decide +kernel
theorem wd_1421 : Cond.methodLink RX10 209 yX10_isWornAt ∈ lw_gd := List.mem_filter.mpr ⟨List.mem_of_getElem? (i := 1421) (by decide +kernel), by decide +kernel⟩
theorem iX10_readFrom_67 : wm_iv t_X10_readFrom t_X10_isWornAt 67 := ⟨209, wd_1421, dX10_readFrom_67⟩
theorem dX10_readFrom_70 : decode t_X10_readFrom.2.1 70 = .ok (.istore 11, 2) := by decide +kernel
theorem dX10_readFrom_72 : decode t_X10_readFrom.2.1 72 = .ok (.iload 5, 2) := by decide +kernel
theorem dX10_readFrom_74 : decode t_X10_readFrom.2.1 74 = .ok (.ifCond .eq 12, 3) := by decide +kernel
theorem dX10_readFrom_77 : decode t_X10_readFrom.2.1 77 = .ok (.iload 10, 2) := by decide +kernel
theorem dX10_readFrom_79 : decode t_X10_readFrom.2.1 79 = .ok (.ifCond .eq 7, 3) := by decide +kernel
theorem dX10_readFrom_82 : decode t_X10_readFrom.2.1 82 = .ok (.iconst 1, 1) := by decide +kernel
theorem dX10_readFrom_83 : decode t_X10_readFrom.2.1 83 = .ok (.goto 4, 3) := by decide +kernel
theorem dX10_readFrom_86 : decode t_X10_readFrom.2.1 86 = .ok (.iconst 0, 1) := by decide +kernel
theorem dX10_readFrom_87 : decode t_X10_readFrom.2.1 87 = .ok (.istore 5, 2) := by decide +kernel
theorem dX10_readFrom_89 : decode t_X10_readFrom.2.1 89 = .ok (.iload 6, 2) := by decide +kernel
theorem dX10_readFrom_91 : decode t_X10_readFrom.2.1 91 = .ok (.ifCond .eq 47, 3) := by decide +kernel
theorem dX10_readFrom_94 : decode t_X10_readFrom.2.1 94 = .ok (.iload 10, 2) := by decide +kernel
theorem dX10_readFrom_96 : decode t_X10_readFrom.2.1 96 = .ok (.ifCond .ne 38, 3) := by decide +kernel
theorem dX10_readFrom_99 : decode t_X10_readFrom.2.1 99 = .ok (.iload 11, 2) := by decide +kernel
theorem dX10_readFrom_101 : decode t_X10_readFrom.2.1 101 = .ok (.ifCond .eq 37, 3) := by decide +kernel
theorem dX10_readFrom_104 : decode t_X10_readFrom.2.1 104 = .ok (.aload_n 0, 1) := by decide +kernel
theorem dX10_readFrom_105 : decode t_X10_readFrom.2.1 105 = .ok (.getfield 38, 3) := by decide +kernel
theorem gX10_readFrom_105 : wm_gf t_X10_readFrom 105 10 16 := ⟨_, _, _, 38, rfl, by decide, wd_1130, dX10_readFrom_105⟩
theorem dX10_readFrom_108 : decode t_X10_readFrom.2.1 108 = .ok (.aload_n 0, 1) := by decide +kernel
theorem dX10_readFrom_109 : decode t_X10_readFrom.2.1 109 = .ok (.iload_n 2, 1) := by decide +kernel
theorem dX10_readFrom_110 : decode t_X10_readFrom.2.1 110 = .ok (.iload_n 3, 1) := by decide +kernel
theorem dX10_readFrom_111 : decode t_X10_readFrom.2.1 111 = .ok (.iload 4, 2) := by decide +kernel
theorem dX10_readFrom_113 : decode t_X10_readFrom.2.1 113 = .ok (.iload 8, 2) := by decide +kernel
theorem dX10_readFrom_115 : decode t_X10_readFrom.2.1 115 = .ok (.iadd, 1) := by decide +kernel
theorem dX10_readFrom_116 : decode t_X10_readFrom.2.1 116 = .ok (.invokevirtual 199, 3) := by decide +kernel
theorem iX10_readFrom_116 : wm_iv t_X10_readFrom t_X10_stoneAt 116 := ⟨199, wd_1401, dX10_readFrom_116⟩
theorem dX10_readFrom_119 : decode t_X10_readFrom.2.1 119 = .ok (.iaload, 1) := by decide +kernel
theorem dX10_readFrom_120 : decode t_X10_readFrom.2.1 120 = .ok (.aload_n 0, 1) := by decide +kernel
theorem dX10_readFrom_121 : decode t_X10_readFrom.2.1 121 = .ok (.getfield 50, 3) := by decide +kernel
theorem gX10_readFrom_121 : wm_gf t_X10_readFrom 121 10 26 := ⟨_, _, _, 50, rfl, by decide, wd_1140, dX10_readFrom_121⟩
theorem dX10_readFrom_124 : decode t_X10_readFrom.2.1 124 = .ok (.iconst 3, 1) := by decide +kernel
theorem dX10_readFrom_125 : decode t_X10_readFrom.2.1 125 = .ok (.iload_n 1, 1) := by decide +kernel
theorem dX10_readFrom_126 : decode t_X10_readFrom.2.1 126 = .ok (.imul, 1) := by decide +kernel
theorem dX10_readFrom_127 : decode t_X10_readFrom.2.1 127 = .ok (.iload 8, 2) := by decide +kernel
theorem dX10_readFrom_129 : decode t_X10_readFrom.2.1 129 = .ok (.iadd, 1) := by decide +kernel
theorem dX10_readFrom_130 : decode t_X10_readFrom.2.1 130 = .ok (.iaload, 1) := by decide +kernel
theorem dX10_readFrom_131 : decode t_X10_readFrom.2.1 131 = .ok (.if_icmp .ne 7, 3) := by decide +kernel
theorem dX10_readFrom_134 : decode t_X10_readFrom.2.1 134 = .ok (.iconst 1, 1) := by decide +kernel
theorem dX10_readFrom_135 : decode t_X10_readFrom.2.1 135 = .ok (.goto 4, 3) := by decide +kernel
theorem dX10_readFrom_138 : decode t_X10_readFrom.2.1 138 = .ok (.iconst 0, 1) := by decide +kernel
theorem dX10_readFrom_139 : decode t_X10_readFrom.2.1 139 = .ok (.istore 6, 2) := by decide +kernel
theorem dX10_readFrom_141 : decode t_X10_readFrom.2.1 141 = .ok (.iload 7, 2) := by decide +kernel
theorem dX10_readFrom_143 : decode t_X10_readFrom.2.1 143 = .ok (.ifCond .ne 8, 3) := by decide +kernel
theorem dX10_readFrom_146 : decode t_X10_readFrom.2.1 146 = .ok (.iload 11, 2) := by decide +kernel
theorem dX10_readFrom_148 : decode t_X10_readFrom.2.1 148 = .ok (.ifCond .eq 7, 3) := by decide +kernel
theorem dX10_readFrom_151 : decode t_X10_readFrom.2.1 151 = .ok (.iconst 1, 1) := by decide +kernel
theorem dX10_readFrom_152 : decode t_X10_readFrom.2.1 152 = .ok (.goto 4, 3) := by decide +kernel
theorem dX10_readFrom_155 : decode t_X10_readFrom.2.1 155 = .ok (.iconst 0, 1) := by decide +kernel
theorem dX10_readFrom_156 : decode t_X10_readFrom.2.1 156 = .ok (.istore 7, 2) := by decide +kernel
theorem dX10_readFrom_158 : decode t_X10_readFrom.2.1 158 = .ok (.iinc 8 1, 3) := by decide +kernel
theorem dX10_readFrom_161 : decode t_X10_readFrom.2.1 161 = .ok (.goto (-149), 3) := by decide +kernel
theorem dX10_readFrom_164 : decode t_X10_readFrom.2.1 164 = .ok (.iload 5, 2) := by decide +kernel
theorem dX10_readFrom_166 : decode t_X10_readFrom.2.1 166 = .ok (.ifCond .eq 16, 3) := by decide +kernel
theorem dX10_readFrom_169 : decode t_X10_readFrom.2.1 169 = .ok (.iload 7, 2) := by decide +kernel
theorem dX10_readFrom_171 : decode t_X10_readFrom.2.1 171 = .ok (.ifCond .eq 7, 3) := by decide +kernel
theorem dX10_readFrom_174 : decode t_X10_readFrom.2.1 174 = .ok (.iconst 2, 1) := by decide +kernel
theorem dX10_readFrom_175 : decode t_X10_readFrom.2.1 175 = .ok (.goto 17, 3) := by decide +kernel
theorem dX10_readFrom_178 : decode t_X10_readFrom.2.1 178 = .ok (.iconst 3, 1) := by decide +kernel
theorem dX10_readFrom_179 : decode t_X10_readFrom.2.1 179 = .ok (.goto 13, 3) := by decide +kernel
theorem dX10_readFrom_182 : decode t_X10_readFrom.2.1 182 = .ok (.iload 6, 2) := by decide +kernel
theorem dX10_readFrom_184 : decode t_X10_readFrom.2.1 184 = .ok (.ifCond .eq 7, 3) := by decide +kernel
theorem dX10_readFrom_187 : decode t_X10_readFrom.2.1 187 = .ok (.iconst 1, 1) := by decide +kernel
theorem dX10_readFrom_188 : decode t_X10_readFrom.2.1 188 = .ok (.goto 4, 3) := by decide +kernel
theorem dX10_readFrom_191 : decode t_X10_readFrom.2.1 191 = .ok (.iconst 0, 1) := by decide +kernel
theorem dX10_readFrom_192 : decode t_X10_readFrom.2.1 192 = .ok (.ireturn, 1) := by decide +kernel
