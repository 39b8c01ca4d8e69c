theorem wd_551 : Cond.code yX4_take cX4_take 2 (none) ∈ lw_gd := List.mem_filter.mpr ⟨List.mem_of_getElem? (i := 551) (by decide +kernel), by decide +kernel⟩
theorem wd_80 : Cond.initialized RX4 ∈ lw_gd := List.mem_filter.mpr ⟨List.mem_of_getElem? (i := 80) (by decide +kernel), by decide +kernel⟩
theorem wd_549 : Cond.instanceMethod yX4_take ∈ lw_gd := List.mem_filter.mpr ⟨List.mem_of_getElem? (i := 549) (by decide +kernel), by decide +kernel⟩
theorem wd_550 : Cond.selects RX4 yX4_take yX4_take ∈ lw_gd := List.mem_filter.mpr ⟨List.mem_of_getElem? (i := 550) (by decide +kernel), by decide +kernel⟩
theorem vX4_take : wm_calV t_X4_take 1 := ⟨⟨wd_551, wd_80, by decide +kernel, by decide +kernel, by decide +kernel⟩, wd_549, wd_550⟩
theorem dX4_take_0 : decode t_X4_take.2.1 0 = .ok (.aload_n 0, 1) := by decide +kernel
theorem dX4_take_1 : decode t_X4_take.2.1 1 = .ok (.aload_n 1, 1) := by decide +kernel
theorem dX4_take_2 : decode t_X4_take.2.1 2 = .ok (.getfield 9, 3) := by decide +kernel
theorem wd_130 : Cond.fieldLink RX4 9 "TurnedStones$Stones" "wide" "I" ∈ lw_gd := List.mem_filter.mpr ⟨List.mem_of_getElem? (i := 130) (by decide +kernel), by decide +kernel⟩
theorem gX4_take_2 : wm_gf t_X4_take 2 4 0 := ⟨_, _, _, 9, rfl, by decide, wd_130, dX4_take_2⟩
theorem dX4_take_5 : decode t_X4_take.2.1 5 = .ok (.putfield 9, 3) := by decide +kernel
theorem gX4_take_5 : wm_pf t_X4_take 5 4 0 .int := ⟨_, _, _, 9, rfl, by decide, wd_130, dX4_take_5, rfl, by decide +kernel⟩
theorem dX4_take_8 : decode t_X4_take.2.1 8 = .ok (.aload_n 0, 1) := by decide +kernel
theorem dX4_take_9 : decode t_X4_take.2.1 9 = .ok (.aload_n 1, 1) := by decide +kernel
theorem dX4_take_10 : decode t_X4_take.2.1 10 = .ok (.getfield 15, 3) := by decide +kernel
theorem wd_132 : Cond.fieldLink RX4 15 "TurnedStones$Stones" "high" "I" ∈ lw_gd := List.mem_filter.mpr ⟨List.mem_of_getElem? (i := 132) (by decide +kernel), by decide +kernel⟩
theorem gX4_take_10 : wm_gf t_X4_take 10 4 1 := ⟨_, _, _, 15, rfl, by decide, wd_132, dX4_take_10⟩
theorem dX4_take_13 : decode t_X4_take.2.1 13 = .ok (.putfield 15, 3) := by decide +kernel
theorem gX4_take_13 : wm_pf t_X4_take 13 4 1 .int := ⟨_, _, _, 15, rfl, by decide, wd_132, dX4_take_13, rfl, by decide +kernel⟩
theorem dX4_take_16 : decode t_X4_take.2.1 16 = .ok (.aload_n 1, 1) := by decide +kernel
theorem dX4_take_17 : decode t_X4_take.2.1 17 = .ok (.getfield 18, 3) := by decide +kernel
theorem wd_134 : Cond.fieldLink RX4 18 "TurnedStones$Stones" "kinds" "[I" ∈ lw_gd := List.mem_filter.mpr ⟨List.mem_of_getElem? (i := 134) (by decide +kernel), by decide +kernel⟩
theorem gX4_take_17 : wm_gf t_X4_take 17 4 2 := ⟨_, _, _, 18, rfl, by decide, wd_134, dX4_take_17⟩
theorem dX4_take_20 : decode t_X4_take.2.1 20 = .ok (.iconst 0, 1) := by decide +kernel
theorem dX4_take_21 : decode t_X4_take.2.1 21 = .ok (.aload_n 0, 1) := by decide +kernel
theorem dX4_take_22 : decode t_X4_take.2.1 22 = .ok (.getfield 18, 3) := by decide +kernel
theorem gX4_take_22 : wm_gf t_X4_take 22 4 2 := ⟨_, _, _, 18, rfl, by decide, wd_134, dX4_take_22⟩
theorem dX4_take_25 : decode t_X4_take.2.1 25 = .ok (.iconst 0, 1) := by decide +kernel
theorem dX4_take_26 : decode t_X4_take.2.1 26 = .ok (.bipush 6, 2) := by decide +kernel
theorem dX4_take_28 : decode t_X4_take.2.1 28 = .ok (.invokestatic 31, 3) := by decide +kernel
theorem wd_552 : Cond.methodLink RX4 31 arraycopyName ∈ lw_gd := List.mem_filter.mpr ⟨List.mem_of_getElem? (i := 552) (by decide +kernel), by decide +kernel⟩
theorem iX4_take_28 : wm_ij t_X4_take arraycopyName 28 := ⟨31, wd_552, dX4_take_28⟩
theorem dX4_take_31 : decode t_X4_take.2.1 31 = .ok (.aload_n 1, 1) := by decide +kernel
theorem dX4_take_32 : decode t_X4_take.2.1 32 = .ok (.getfield 22, 3) := by decide +kernel
theorem wd_138 : Cond.fieldLink RX4 22 "TurnedStones$Stones" "words" "[I" ∈ lw_gd := List.mem_filter.mpr ⟨List.mem_of_getElem? (i := 138) (by decide +kernel), by decide +kernel⟩
theorem gX4_take_32 : wm_gf t_X4_take 32 4 3 := ⟨_, _, _, 22, rfl, by decide, wd_138, dX4_take_32⟩
theorem dX4_take_35 : decode t_X4_take.2.1 35 = .ok (.iconst 0, 1) := by decide +kernel
theorem dX4_take_36 : decode t_X4_take.2.1 36 = .ok (.aload_n 0, 1) := by decide +kernel
theorem dX4_take_37 : decode t_X4_take.2.1 37 = .ok (.getfield 22, 3) := by decide +kernel
theorem gX4_take_37 : wm_gf t_X4_take 37 4 3 := ⟨_, _, _, 22, rfl, by decide, wd_138, dX4_take_37⟩
theorem dX4_take_40 : decode t_X4_take.2.1 40 = .ok (.iconst 0, 1) := by decide +kernel
theorem dX4_take_41 : decode t_X4_take.2.1 41 = .ok (.bipush 24, 2) := by decide +kernel
theorem dX4_take_43 : decode t_X4_take.2.1 43 = .ok (.invokestatic 31, 3) := by decide +kernel
theorem iX4_take_43 : wm_ij t_X4_take arraycopyName 43 := ⟨31, wd_552, dX4_take_43⟩
theorem dX4_take_46 : decode t_X4_take.2.1 46 = .ok (.aload_n 1, 1) := by decide +kernel
theorem dX4_take_47 : decode t_X4_take.2.1 47 = .ok (.getfield 25, 3) := by decide +kernel
theorem wd_142 : Cond.fieldLink RX4 25 "TurnedStones$Stones" "sides" "[I" ∈ lw_gd := List.mem_filter.mpr ⟨List.mem_of_getElem? (i := 142) (by decide +kernel), by decide +kernel⟩
theorem gX4_take_47 : wm_gf t_X4_take 47 4 4 := ⟨_, _, _, 25, rfl, by decide, wd_142, dX4_take_47⟩
theorem dX4_take_50 : decode t_X4_take.2.1 50 = .ok (.iconst 0, 1) := by decide +kernel
theorem dX4_take_51 : decode t_X4_take.2.1 51 = .ok (.aload_n 0, 1) := by decide +kernel
theorem dX4_take_52 : decode t_X4_take.2.1 52 = .ok (.getfield 25, 3) := by decide +kernel
theorem gX4_take_52 : wm_gf t_X4_take 52 4 4 := ⟨_, _, _, 25, rfl, by decide, wd_142, dX4_take_52⟩
theorem dX4_take_55 : decode t_X4_take.2.1 55 = .ok (.iconst 0, 1) := by decide +kernel
theorem dX4_take_56 : decode t_X4_take.2.1 56 = .ok (.bipush 6, 2) := by decide +kernel
theorem dX4_take_58 : decode t_X4_take.2.1 58 = .ok (.invokestatic 31, 3) := by decide +kernel
theorem iX4_take_58 : wm_ij t_X4_take arraycopyName 58 := ⟨31, wd_552, dX4_take_58⟩
theorem dX4_take_61 : decode t_X4_take.2.1 61 = .ok (.aload_n 1, 1) := by decide +kernel
theorem dX4_take_62 : decode t_X4_take.2.1 62 = .ok (.getfield 28, 3) := by decide +kernel
theorem wd_146 : Cond.fieldLink RX4 28 "TurnedStones$Stones" "others" "[I" ∈ lw_gd := List.mem_filter.mpr ⟨List.mem_of_getElem? (i := 146) (by decide +kernel), by decide +kernel⟩
theorem gX4_take_62 : wm_gf t_X4_take 62 4 5 := ⟨_, _, _, 28, rfl, by decide, wd_146, dX4_take_62⟩
theorem dX4_take_65 : decode t_X4_take.2.1 65 = .ok (.iconst 0, 1) := by decide +kernel
theorem dX4_take_66 : decode t_X4_take.2.1 66 = .ok (.aload_n 0, 1) := by decide +kernel
theorem dX4_take_67 : decode t_X4_take.2.1 67 = .ok (.getfield 28, 3) := by decide +kernel
theorem gX4_take_67 : wm_gf t_X4_take 67 4 5 := ⟨_, _, _, 28, rfl, by decide, wd_146, dX4_take_67⟩
theorem dX4_take_70 : decode t_X4_take.2.1 70 = .ok (.iconst 0, 1) := by decide +kernel
theorem dX4_take_71 : decode t_X4_take.2.1 71 = .ok (.bipush 6, 2) := by decide +kernel
theorem dX4_take_73 : decode t_X4_take.2.1 73 = .ok (.invokestatic 31, 3) := by decide +kernel
theorem iX4_take_73 : wm_ij t_X4_take arraycopyName 73 := ⟨31, wd_552, dX4_take_73⟩
theorem dX4_take_76 : decode t_X4_take.2.1 76 = .ok (.return_, 1) := by decide +kernel
theorem wd_520 : Cond.code yX4_number cX4_number 1 (some .int) ∈ lw_gd := List.mem_filter.mpr ⟨List.mem_of_getElem? (i := 520) (by decide +kernel), by decide +kernel⟩
theorem wd_518 : Cond.instanceMethod yX4_number ∈ lw_gd := List.mem_filter.mpr ⟨List.mem_of_getElem? (i := 518) (by decide +kernel), by decide +kernel⟩
theorem wd_519 : Cond.selects RX4 yX4_number yX4_number ∈ lw_gd := List.mem_filter.mpr ⟨List.mem_of_getElem? (i := 519) (by decide +kernel), by decide +kernel⟩
theorem vX4_number : wm_calV t_X4_number 0 := ⟨⟨wd_520, wd_80, by decide +kernel, by decide +kernel, by decide +kernel⟩, wd_518, wd_519⟩
theorem dX4_number_0 : decode t_X4_number.2.1 0 = .ok (.aload_n 0, 1) := by decide +kernel
theorem dX4_number_1 : decode t_X4_number.2.1 1 = .ok (.getfield 9, 3) := by decide +kernel
theorem gX4_number_1 : wm_gf t_X4_number 1 4 0 := ⟨_, _, _, 9, rfl, by decide, wd_130, dX4_number_1⟩
theorem dX4_number_4 : decode t_X4_number.2.1 4 = .ok (.aload_n 0, 1) := by decide +kernel
theorem dX4_number_5 : decode t_X4_number.2.1 5 = .ok (.getfield 15, 3) := by decide +kernel
theorem gX4_number_5 : wm_gf t_X4_number 5 4 1 := ⟨_, _, _, 15, rfl, by decide, wd_132, dX4_number_5⟩
theorem dX4_number_8 : decode t_X4_number.2.1 8 = .ok (.imul, 1) := by decide +kernel
theorem dX4_number_9 : decode t_X4_number.2.1 9 = .ok (.ireturn, 1) := by decide +kernel
theorem wd_576 : Cond.code yX4_streets cX4_streets 1 (some .int) ∈ lw_gd := List.mem_filter.mpr ⟨List.mem_of_getElem? (i := 576) (by decide +kernel), by decide +kernel⟩
theorem wd_574 : Cond.instanceMethod yX4_streets ∈ lw_gd := List.mem_filter.mpr ⟨List.mem_of_getElem? (i := 574) (by decide +kernel), by decide +kernel⟩
theorem wd_575 : Cond.selects RX4 yX4_streets yX4_streets ∈ lw_gd := List.mem_filter.mpr ⟨List.mem_of_getElem? (i := 575) (by decide +kernel), by decide +kernel⟩
theorem vX4_streets : wm_calV t_X4_streets 0 := ⟨⟨wd_576, wd_80, by decide +kernel, by decide +kernel, by decide +kernel⟩, wd_574, wd_575⟩
theorem dX4_streets_0 : decode t_X4_streets.2.1 0 = .ok (.aload_n 0, 1) := by decide +kernel
theorem dX4_streets_1 : decode t_X4_streets.2.1 1 = .ok (.getfield 9, 3) := by decide +kernel
theorem gX4_streets_1 : wm_gf t_X4_streets 1 4 0 := ⟨_, _, _, 9, rfl, by decide, wd_130, dX4_streets_1⟩
theorem dX4_streets_4 : decode t_X4_streets.2.1 4 = .ok (.aload_n 0, 1) := by decide +kernel
theorem dX4_streets_5 : decode t_X4_streets.2.1 5 = .ok (.getfield 15, 3) := by decide +kernel
theorem gX4_streets_5 : wm_gf t_X4_streets 5 4 1 := ⟨_, _, _, 15, rfl, by decide, wd_132, dX4_streets_5⟩
theorem dX4_streets_8 : decode t_X4_streets.2.1 8 = .ok (.iadd, 1) := by decide +kernel
theorem dX4_streets_9 : decode t_X4_streets.2.1 9 = .ok (.ireturn, 1) := by decide +kernel
theorem wd_601 : Cond.code yX4_knows cX4_knows 2 (some .boolean) ∈ lw_gd := List.mem_filter.mpr ⟨List.mem_of_getElem? (i := 601) (by decide +kernel), by decide +kernel⟩
theorem wd_599 : Cond.instanceMethod yX4_knows ∈ lw_gd := List.mem_filter.mpr ⟨List.mem_of_getElem? (i := 599) (by decide +kernel), by decide +kernel⟩
theorem wd_600 : Cond.selects RX4 yX4_knows yX4_knows ∈ lw_gd := List.mem_filter.mpr ⟨List.mem_of_getElem? (i := 600) (by decide +kernel), by decide +kernel⟩
theorem vX4_knows : wm_calV t_X4_knows 1 := ⟨⟨wd_601, wd_80, by decide +kernel, by decide +kernel, by decide +kernel⟩, wd_599, wd_600⟩
theorem dX4_knows_0 : decode t_X4_knows.2.1 0 = .ok (.iload_n 1, 1) := by decide +kernel
theorem dX4_knows_1 : decode t_X4_knows.2.1 1 = .ok (.ifCond .lt 15, 3) := by decide +kernel
theorem dX4_knows_4 : decode t_X4_knows.2.1 4 = .ok (.iload_n 1, 1) := by decide +kernel
theorem dX4_knows_5 : decode t_X4_knows.2.1 5 = .ok (.aload_n 0, 1) := by decide +kernel
theorem dX4_knows_6 : decode t_X4_knows.2.1 6 = .ok (.invokevirtual 37, 3) := by decide +kernel
theorem wd_602 : Cond.methodLink RX4 37 yX4_number ∈ lw_gd := List.mem_filter.mpr ⟨List.mem_of_getElem? (i := 602) (by decide +kernel), by decide +kernel⟩
theorem iX4_knows_6 : wm_iv t_X4_knows t_X4_number 6 := ⟨37, wd_602, dX4_knows_6⟩
theorem dX4_knows_9 : decode t_X4_knows.2.1 9 = .ok (.if_icmp .ge 7, 3) := by decide +kernel
theorem dX4_knows_12 : decode t_X4_knows.2.1 12 = .ok (.iconst 1, 1) := by decide +kernel
theorem dX4_knows_13 : decode t_X4_knows.2.1 13 = .ok (.goto 4, 3) := by decide +kernel
theorem dX4_knows_16 : decode t_X4_knows.2.1 16 = .ok (.iconst 0, 1) := by decide +kernel
theorem dX4_knows_17 : decode t_X4_knows.2.1 17 = .ok (.ireturn, 1) := by decide +kernel
theorem wd_539 : Cond.code yX4_isOf cX4_isOf 4 (some .boolean) ∈ lw_gd := List.mem_filter.mpr ⟨List.mem_of_getElem? (i := 539) (by decide +kernel), by decide +kernel⟩
theorem wd_537 : Cond.instanceMethod yX4_isOf ∈ lw_gd := List.mem_filter.mpr ⟨List.mem_of_getElem? (i := 537) (by decide +kernel), by decide +kernel⟩
theorem wd_538 : Cond.selects RX4 yX4_isOf yX4_isOf ∈ lw_gd := List.mem_filter.mpr ⟨List.mem_of_getElem? (i := 538) (by decide +kernel), by decide +kernel⟩
theorem vX4_isOf : wm_calV t_X4_isOf 2 := ⟨⟨wd_539, wd_80, by decide +kernel, by decide +kernel, by decide +kernel⟩, wd_537, wd_538⟩
theorem dX4_isOf_0 : decode t_X4_isOf.2.1 0 = .ok (.aload_n 0, 1) := by decide +kernel
theorem dX4_isOf_1 : decode t_X4_isOf.2.1 1 = .ok (.getfield 18, 3) := by decide +kernel
theorem gX4_isOf_1 : wm_gf t_X4_isOf 1 4 2 := ⟨_, _, _, 18, rfl, by decide, wd_134, dX4_isOf_1⟩
theorem dX4_isOf_4 : decode t_X4_isOf.2.1 4 = .ok (.iload_n 1, 1) := by decide +kernel
theorem dX4_isOf_5 : decode t_X4_isOf.2.1 5 = .ok (.iaload, 1) := by decide +kernel
theorem dX4_isOf_6 : decode t_X4_isOf.2.1 6 = .ok (.istore_n 3, 1) := by decide +kernel
theorem dX4_isOf_7 : decode t_X4_isOf.2.1 7 = .ok (.iload_n 3, 1) := by decide +kernel
theorem dX4_isOf_8 : decode t_X4_isOf.2.1 8 = .ok (.iload_n 2, 1) := by decide +kernel
theorem dX4_isOf_9 : decode t_X4_isOf.2.1 9 = .ok (.if_icmp .eq 23, 3) := by decide +kernel
theorem dX4_isOf_12 : decode t_X4_isOf.2.1 12 = .ok (.iload_n 2, 1) := by decide +kernel
theorem dX4_isOf_13 : decode t_X4_isOf.2.1 13 = .ok (.iconst 1, 1) := by decide +kernel
theorem dX4_isOf_14 : decode t_X4_isOf.2.1 14 = .ok (.if_icmp .ne 8, 3) := by decide +kernel
theorem dX4_isOf_17 : decode t_X4_isOf.2.1 17 = .ok (.iload_n 3, 1) := by decide +kernel
theorem dX4_isOf_18 : decode t_X4_isOf.2.1 18 = .ok (.iconst 4, 1) := by decide +kernel
theorem dX4_isOf_19 : decode t_X4_isOf.2.1 19 = .ok (.if_icmp .eq 13, 3) := by decide +kernel
theorem dX4_isOf_22 : decode t_X4_isOf.2.1 22 = .ok (.iload_n 2, 1) := by decide +kernel
theorem dX4_isOf_23 : decode t_X4_isOf.2.1 23 = .ok (.iconst 2, 1) := by decide +kernel
theorem dX4_isOf_24 : decode t_X4_isOf.2.1 24 = .ok (.if_icmp .ne 12, 3) := by decide +kernel
theorem dX4_isOf_27 : decode t_X4_isOf.2.1 27 = .ok (.iload_n 3, 1) := by decide +kernel
theorem dX4_isOf_28 : decode t_X4_isOf.2.1 28 = .ok (.iconst 5, 1) := by decide +kernel
theorem dX4_isOf_29 : decode t_X4_isOf.2.1 29 = .ok (.if_icmp .ne 7, 3) := by decide +kernel
theorem dX4_isOf_32 : decode t_X4_isOf.2.1 32 = .ok (.iconst 1, 1) := by decide +kernel
theorem dX4_isOf_33 : decode t_X4_isOf.2.1 33 = .ok (.goto 4, 3) := by decide +kernel
theorem dX4_isOf_36 : decode t_X4_isOf.2.1 36 = .ok (.iconst 0, 1) := by decide +kernel
theorem dX4_isOf_37 : decode t_X4_isOf.2.1 37 = .ok (.ireturn, 1) := by decide +kernel
theorem wd_1013 : Cond.code yX4_numberOf cX4_numberOf 4 (some .int) ∈ lw_gd := List.mem_filter.mpr ⟨List.mem_of_getElem? (i := 1013) (by decide +kernel), by decide +kernel⟩
theorem wd_1011 : Cond.instanceMethod yX4_numberOf ∈ lw_gd := List.mem_filter.mpr ⟨List.mem_of_getElem? (i := 1011) (by decide +kernel), by decide +kernel⟩
theorem wd_1012 : Cond.selects RX4 yX4_numberOf yX4_numberOf ∈ lw_gd := List.mem_filter.mpr ⟨List.mem_of_getElem? (i := 1012) (by decide +kernel), by decide +kernel⟩
theorem vX4_numberOf : wm_calV t_X4_numberOf 1 := ⟨⟨wd_1013, wd_80, by decide +kernel, by decide +kernel, by decide +kernel⟩, wd_1011, wd_1012⟩
theorem dX4_numberOf_0 : decode t_X4_numberOf.2.1 0 = .ok (.iconst 0, 1) := by decide +kernel
theorem dX4_numberOf_1 : decode t_X4_numberOf.2.1 1 = .ok (.istore_n 2, 1) := by decide +kernel
theorem dX4_numberOf_2 : decode t_X4_numberOf.2.1 2 = .ok (.iconst 0, 1) := by decide +kernel
theorem dX4_numberOf_3 : decode t_X4_numberOf.2.1 3 = .ok (.istore_n 3, 1) := by decide +kernel
theorem dX4_numberOf_4 : decode t_X4_numberOf.2.1 4 = .ok (.iload_n 3, 1) := by decide +kernel
theorem dX4_numberOf_5 : decode t_X4_numberOf.2.1 5 = .ok (.aload_n 0, 1) := by decide +kernel
theorem dX4_numberOf_6 : decode t_X4_numberOf.2.1 6 = .ok (.invokevirtual 37, 3) := by decide +kernel
theorem iX4_numberOf_6 : wm_iv t_X4_numberOf t_X4_number 6 := ⟨37, wd_602, dX4_numberOf_6⟩
theorem dX4_numberOf_9 : decode t_X4_numberOf.2.1 9 = .ok (.if_icmp .ge 21, 3) := by decide +kernel
theorem dX4_numberOf_12 : decode t_X4_numberOf.2.1 12 = .ok (.aload_n 0, 1) := by decide +kernel
theorem dX4_numberOf_13 : decode t_X4_numberOf.2.1 13 = .ok (.iload_n 3, 1) := by decide +kernel
theorem dX4_numberOf_14 : decode t_X4_numberOf.2.1 14 = .ok (.iload_n 1, 1) := by decide +kernel
theorem dX4_numberOf_15 : decode t_X4_numberOf.2.1 15 = .ok (.invokevirtual 41, 3) := by decide +kernel
theorem wd_607 : Cond.methodLink RX4 41 yX4_isOf ∈ lw_gd := List.mem_filter.mpr ⟨List.mem_of_getElem? (i := 607) (by decide +kernel), by decide +kernel⟩
theorem iX4_numberOf_15 : wm_iv t_X4_numberOf t_X4_isOf 15 := ⟨41, wd_607, dX4_numberOf_15⟩
theorem dX4_numberOf_18 : decode t_X4_numberOf.2.1 18 = .ok (.ifCond .eq 6, 3) := by decide +kernel
theorem dX4_numberOf_21 : decode t_X4_numberOf.2.1 21 = .ok (.iinc 2 1, 3) := by decide +kernel
theorem dX4_numberOf_24 : decode t_X4_numberOf.2.1 24 = .ok (.iinc 3 1, 3) := by decide +kernel
theorem dX4_numberOf_27 : decode t_X4_numberOf.2.1 27 = .ok (.goto (-23), 3) := by decide +kernel
theorem dX4_numberOf_30 : decode t_X4_numberOf.2.1 30 = .ok (.iload_n 2, 1) := by decide +kernel
theorem dX4_numberOf_31 : decode t_X4_numberOf.2.1 31 = .ok (.ireturn, 1) := by decide +kernel
theorem wd_667 : Cond.code yX4_rowOf cX4_rowOf 2 (some .int) ∈ lw_gd := List.mem_filter.mpr ⟨List.mem_of_getElem? (i := 667) (by decide +kernel), by decide +kernel⟩
theorem wd_665 : Cond.instanceMethod yX4_rowOf ∈ lw_gd := List.mem_filter.mpr ⟨List.mem_of_getElem? (i := 665) (by decide +kernel), by decide +kernel⟩
theorem wd_666 : Cond.selects RX4 yX4_rowOf yX4_rowOf ∈ lw_gd := List.mem_filter.mpr ⟨List.mem_of_getElem? (i := 666) (by decide +kernel), by decide +kernel⟩
theorem vX4_rowOf : wm_calV t_X4_rowOf 1 := ⟨⟨wd_667, wd_80, by decide +kernel, by decide +kernel, by decide +kernel⟩, wd_665, wd_666⟩
theorem dX4_rowOf_0 : decode t_X4_rowOf.2.1 0 = .ok (.aload_n 0, 1) := by decide +kernel
theorem dX4_rowOf_1 : decode t_X4_rowOf.2.1 1 = .ok (.getfield 9, 3) := by decide +kernel
theorem gX4_rowOf_1 : wm_gf t_X4_rowOf 1 4 0 := ⟨_, _, _, 9, rfl, by decide, wd_130, dX4_rowOf_1⟩
theorem dX4_rowOf_4 : decode t_X4_rowOf.2.1 4 = .ok (.ifCond .le 12, 3) := by decide +kernel
theorem dX4_rowOf_7 : decode t_X4_rowOf.2.1 7 = .ok (.iload_n 1, 1) := by decide +kernel
theorem dX4_rowOf_8 : decode t_X4_rowOf.2.1 8 = .ok (.aload_n 0, 1) := by decide +kernel
theorem dX4_rowOf_9 : decode t_X4_rowOf.2.1 9 = .ok (.getfield 9, 3) := by decide +kernel
theorem gX4_rowOf_9 : wm_gf t_X4_rowOf 9 4 0 := ⟨_, _, _, 9, rfl, by decide, wd_130, dX4_rowOf_9⟩
theorem dX4_rowOf_12 : decode t_X4_rowOf.2.1 12 = .ok (.idiv, 1) := by decide +kernel
theorem dX4_rowOf_13 : decode t_X4_rowOf.2.1 13 = .ok (.goto 4, 3) := by decide +kernel
theorem dX4_rowOf_16 : decode t_X4_rowOf.2.1 16 = .ok (.iconst 0, 1) := by decide +kernel
theorem dX4_rowOf_17 : decode t_X4_rowOf.2.1 17 = .ok (.ireturn, 1) := by decide +kernel
theorem wd_653 : Cond.code yX4_sharedStreets cX4_sharedStreets 1 (some .int) ∈ lw_gd := List.mem_filter.mpr ⟨List.mem_of_getElem? (i := 653) (by decide +kernel), by decide +kernel⟩
theorem wd_651 : Cond.instanceMethod yX4_sharedStreets ∈ lw_gd := List.mem_filter.mpr ⟨List.mem_of_getElem? (i := 651) (by decide +kernel), by decide +kernel⟩
theorem wd_652 : Cond.selects RX4 yX4_sharedStreets yX4_sharedStreets ∈ lw_gd := List.mem_filter.mpr ⟨List.mem_of_getElem? (i := 652) (by decide +kernel), by decide +kernel⟩
theorem vX4_sharedStreets : wm_calV t_X4_sharedStreets 0 := ⟨⟨wd_653, wd_80, by decide +kernel, by decide +kernel, by decide +kernel⟩, wd_651, wd_652⟩
theorem dX4_sharedStreets_0 : decode t_X4_sharedStreets.2.1 0 = .ok (.aload_n 0, 1) := by decide +kernel
theorem dX4_sharedStreets_1 : decode t_X4_sharedStreets.2.1 1 = .ok (.getfield 9, 3) := by decide +kernel
theorem gX4_sharedStreets_1 : wm_gf t_X4_sharedStreets 1 4 0 := ⟨_, _, _, 9, rfl, by decide, wd_130, dX4_sharedStreets_1⟩
theorem dX4_sharedStreets_4 : decode t_X4_sharedStreets.2.1 4 = .ok (.iconst 1, 1) := by decide +kernel
theorem dX4_sharedStreets_5 : decode t_X4_sharedStreets.2.1 5 = .ok (.if_icmp .le 7, 3) := by decide +kernel
theorem dX4_sharedStreets_8 : decode t_X4_sharedStreets.2.1 8 = .ok (.iconst 1, 1) := by decide +kernel
theorem dX4_sharedStreets_9 : decode t_X4_sharedStreets.2.1 9 = .ok (.goto 4, 3) := by decide +kernel
theorem dX4_sharedStreets_12 : decode t_X4_sharedStreets.2.1 12 = .ok (.iconst 0, 1) := by decide +kernel
theorem dX4_sharedStreets_13 : decode t_X4_sharedStreets.2.1 13 = .ok (.aload_n 0, 1) := by decide +kernel
theorem dX4_sharedStreets_14 : decode t_X4_sharedStreets.2.1 14 = .ok (.getfield 15, 3) := by decide +kernel
theorem gX4_sharedStreets_14 : wm_gf t_X4_sharedStreets 14 4 1 := ⟨_, _, _, 15, rfl, by decide, wd_132, dX4_sharedStreets_14⟩
theorem dX4_sharedStreets_17 : decode t_X4_sharedStreets.2.1 17 = .ok (.iconst 1, 1) := by decide +kernel
theorem dX4_sharedStreets_18 : decode t_X4_sharedStreets.2.1 18 = .ok (.if_icmp .le 7, 3) := by decide +kernel
theorem dX4_sharedStreets_21 : decode t_X4_sharedStreets.2.1 21 = .ok (.iconst 1, 1) := by decide +kernel
theorem dX4_sharedStreets_22 : decode t_X4_sharedStreets.2.1 22 = .ok (.goto 4, 3) := by decide +kernel
theorem dX4_sharedStreets_25 : decode t_X4_sharedStreets.2.1 25 = .ok (.iconst 0, 1) := by decide +kernel
theorem dX4_sharedStreets_26 : decode t_X4_sharedStreets.2.1 26 = .ok (.iadd, 1) := by decide +kernel
theorem dX4_sharedStreets_27 : decode t_X4_sharedStreets.2.1 27 = .ok (.ireturn, 1) := by decide +kernel
theorem wd_657 : Cond.code yX4_unlikeWords cX4_unlikeWords 6 (some .int) ∈ lw_gd := List.mem_filter.mpr ⟨List.mem_of_getElem? (i := 657) (by decide +kernel), by decide +kernel⟩
theorem wd_655 : Cond.instanceMethod yX4_unlikeWords ∈ lw_gd := List.mem_filter.mpr ⟨List.mem_of_getElem? (i := 655) (by decide +kernel), by decide +kernel⟩
theorem wd_656 : Cond.selects RX4 yX4_unlikeWords yX4_unlikeWords ∈ lw_gd := List.mem_filter.mpr ⟨List.mem_of_getElem? (i := 656) (by decide +kernel), by decide +kernel⟩
theorem vX4_unlikeWords : wm_calV t_X4_unlikeWords 2 := ⟨⟨wd_657, wd_80, by decide +kernel, by decide +kernel, by decide +kernel⟩, wd_655, wd_656⟩
theorem dX4_unlikeWords_0 : decode t_X4_unlikeWords.2.1 0 = .ok (.iconst 0, 1) := by decide +kernel
theorem dX4_unlikeWords_1 : decode t_X4_unlikeWords.2.1 1 = .ok (.istore_n 3, 1) := by decide +kernel
theorem dX4_unlikeWords_2 : decode t_X4_unlikeWords.2.1 2 = .ok (.iconst 0, 1) := by decide +kernel
theorem dX4_unlikeWords_3 : decode t_X4_unlikeWords.2.1 3 = .ok (.istore 4, 2) := by decide +kernel
theorem dX4_unlikeWords_5 : decode t_X4_unlikeWords.2.1 5 = .ok (.iload 4, 2) := by decide +kernel
theorem dX4_unlikeWords_7 : decode t_X4_unlikeWords.2.1 7 = .ok (.iconst 4, 1) := by decide +kernel
theorem dX4_unlikeWords_8 : decode t_X4_unlikeWords.2.1 8 = .ok (.if_icmp .ge 45, 3) := by decide +kernel
theorem dX4_unlikeWords_11 : decode t_X4_unlikeWords.2.1 11 = .ok (.aload_n 0, 1) := by decide +kernel
theorem dX4_unlikeWords_12 : decode t_X4_unlikeWords.2.1 12 = .ok (.getfield 22, 3) := by decide +kernel
theorem gX4_unlikeWords_12 : wm_gf t_X4_unlikeWords 12 4 3 := ⟨_, _, _, 22, rfl, by decide, wd_138, dX4_unlikeWords_12⟩
theorem dX4_unlikeWords_15 : decode t_X4_unlikeWords.2.1 15 = .ok (.iconst 4, 1) := by decide +kernel
theorem dX4_unlikeWords_16 : decode t_X4_unlikeWords.2.1 16 = .ok (.iload_n 1, 1) := by decide +kernel
theorem dX4_unlikeWords_17 : decode t_X4_unlikeWords.2.1 17 = .ok (.imul, 1) := by decide +kernel
theorem dX4_unlikeWords_18 : decode t_X4_unlikeWords.2.1 18 = .ok (.iload 4, 2) := by decide +kernel
theorem dX4_unlikeWords_20 : decode t_X4_unlikeWords.2.1 20 = .ok (.iadd, 1) := by decide +kernel
theorem dX4_unlikeWords_21 : decode t_X4_unlikeWords.2.1 21 = .ok (.iaload, 1) := by decide +kernel
theorem dX4_unlikeWords_22 : decode t_X4_unlikeWords.2.1 22 = .ok (.istore 5, 2) := by decide +kernel
theorem dX4_unlikeWords_24 : decode t_X4_unlikeWords.2.1 24 = .ok (.iload_n 2, 1) := by decide +kernel
theorem dX4_unlikeWords_25 : decode t_X4_unlikeWords.2.1 25 = .ok (.iload 4, 2) := by decide +kernel
theorem dX4_unlikeWords_27 : decode t_X4_unlikeWords.2.1 27 = .ok (.ishr, 1) := by decide +kernel
theorem dX4_unlikeWords_28 : decode t_X4_unlikeWords.2.1 28 = .ok (.iconst 1, 1) := by decide +kernel
theorem dX4_unlikeWords_29 : decode t_X4_unlikeWords.2.1 29 = .ok (.iand, 1) := by decide +kernel
theorem dX4_unlikeWords_30 : decode t_X4_unlikeWords.2.1 30 = .ok (.iconst 1, 1) := by decide +kernel
theorem dX4_unlikeWords_31 : decode t_X4_unlikeWords.2.1 31 = .ok (.if_icmp .ne 16, 3) := by decide +kernel
theorem dX4_unlikeWords_34 : decode t_X4_unlikeWords.2.1 34 = .ok (.iload 5, 2) := by decide +kernel
theorem dX4_unlikeWords_36 : decode t_X4_unlikeWords.2.1 36 = .ok (.iconst (-1), 1) := by decide +kernel
theorem dX4_unlikeWords_37 : decode t_X4_unlikeWords.2.1 37 = .ok (.if_icmp .eq 10, 3) := by decide +kernel
theorem dX4_unlikeWords_40 : decode t_X4_unlikeWords.2.1 40 = .ok (.iload_n 3, 1) := by decide +kernel
theorem dX4_unlikeWords_41 : decode t_X4_unlikeWords.2.1 41 = .ok (.iconst 1, 1) := by decide +kernel
theorem dX4_unlikeWords_42 : decode t_X4_unlikeWords.2.1 42 = .ok (.iload 5, 2) := by decide +kernel
theorem dX4_unlikeWords_44 : decode t_X4_unlikeWords.2.1 44 = .ok (.ishl, 1) := by decide +kernel
theorem dX4_unlikeWords_45 : decode t_X4_unlikeWords.2.1 45 = .ok (.ior, 1) := by decide +kernel
theorem dX4_unlikeWords_46 : decode t_X4_unlikeWords.2.1 46 = .ok (.istore_n 3, 1) := by decide +kernel
theorem dX4_unlikeWords_47 : decode t_X4_unlikeWords.2.1 47 = .ok (.iinc 4 1, 3) := by decide +kernel
theorem dX4_unlikeWords_50 : decode t_X4_unlikeWords.2.1 50 = .ok (.goto (-45), 3) := by decide +kernel
theorem dX4_unlikeWords_53 : decode t_X4_unlikeWords.2.1 53 = .ok (.iload_n 3, 1) := by decide +kernel
theorem dX4_unlikeWords_54 : decode t_X4_unlikeWords.2.1 54 = .ok (.invokestatic 45, 3) := by decide +kernel
theorem wd_658 : Cond.methodLink RX4 45 yJ6_bitCount_0f7a4 ∈ lw_gd := List.mem_filter.mpr ⟨List.mem_of_getElem? (i := 658) (by decide +kernel), by decide +kernel⟩
theorem iX4_unlikeWords_54 : wm_is t_X4_unlikeWords t_J6_bitCount_0f7a4 54 := ⟨45, wd_658, dX4_unlikeWords_54⟩
theorem dX4_unlikeWords_57 : decode t_X4_unlikeWords.2.1 57 = .ok (.ireturn, 1) := by decide +kernel
theorem wd_644 : Cond.code yX4_quarters cX4_quarters 2 (some .int) ∈ lw_gd := List.mem_filter.mpr ⟨List.mem_of_getElem? (i := 644) (by decide +kernel), by decide +kernel⟩
theorem wd_643 : Cond.static yX4_quarters ∈ lw_gd := List.mem_filter.mpr ⟨List.mem_of_getElem? (i := 643) (by decide +kernel), by decide +kernel⟩
theorem vX4_quarters : wm_calS t_X4_quarters 2 := ⟨⟨wd_644, wd_80, by decide +kernel, by decide +kernel, by decide +kernel⟩, wd_643⟩
theorem dX4_quarters_0 : decode t_X4_quarters.2.1 0 = .ok (.iload_n 0, 1) := by decide +kernel
theorem dX4_quarters_1 : decode t_X4_quarters.2.1 1 = .ok (.iconst 2, 1) := by decide +kernel
theorem dX4_quarters_2 : decode t_X4_quarters.2.1 2 = .ok (.iload_n 1, 1) := by decide +kernel
theorem dX4_quarters_3 : decode t_X4_quarters.2.1 3 = .ok (.imul, 1) := by decide +kernel
theorem dX4_quarters_4 : decode t_X4_quarters.2.1 4 = .ok (.ishr, 1) := by decide +kernel
theorem dX4_quarters_5 : decode t_X4_quarters.2.1 5 = .ok (.iconst 3, 1) := by decide +kernel
theorem dX4_quarters_6 : decode t_X4_quarters.2.1 6 = .ok (.iand, 1) := by decide +kernel
theorem dX4_quarters_7 : decode t_X4_quarters.2.1 7 = .ok (.ireturn, 1) := by decide +kernel
theorem wd_764 : Cond.code yX4_step cX4_step 2 (some .int) ∈ lw_gd := List.mem_filter.mpr ⟨List.mem_of_getElem? (i := 764) (by decide +kernel), by decide +kernel⟩
theorem wd_762 : Cond.instanceMethod yX4_step ∈ lw_gd := List.mem_filter.mpr ⟨List.mem_of_getElem? (i := 762) (by decide +kernel), by decide +kernel⟩
theorem wd_763 : Cond.selects RX4 yX4_step yX4_step ∈ lw_gd := List.mem_filter.mpr ⟨List.mem_of_getElem? (i := 763) (by decide +kernel), by decide +kernel⟩
theorem vX4_step : wm_calV t_X4_step 1 := ⟨⟨wd_764, wd_80, by decide +kernel, by decide +kernel, by decide +kernel⟩, wd_762, wd_763⟩
theorem dX4_step_0 : decode t_X4_step.2.1 0 = .ok (.aload_n 0, 1) := by decide +kernel
theorem dX4_step_1 : decode t_X4_step.2.1 1 = .ok (.iload_n 1, 1) := by decide +kernel
theorem dX4_step_2 : decode t_X4_step.2.1 2 = .ok (.iconst 2, 1) := by decide +kernel
theorem dX4_step_3 : decode t_X4_step.2.1 3 = .ok (.invokevirtual 41, 3) := by decide +kernel
theorem iX4_step_3 : wm_iv t_X4_step t_X4_isOf 3 := ⟨41, wd_607, dX4_step_3⟩
theorem dX4_step_6 : decode t_X4_step.2.1 6 = .ok (.ifCond .eq 7, 3) := by decide +kernel
theorem dX4_step_9 : decode t_X4_step.2.1 9 = .ok (.iconst 0, 1) := by decide +kernel
theorem dX4_step_10 : decode t_X4_step.2.1 10 = .ok (.goto 18, 3) := by decide +kernel
theorem dX4_step_13 : decode t_X4_step.2.1 13 = .ok (.aload_n 0, 1) := by decide +kernel
theorem dX4_step_14 : decode t_X4_step.2.1 14 = .ok (.getfield 18, 3) := by decide +kernel
theorem gX4_step_14 : wm_gf t_X4_step 14 4 2 := ⟨_, _, _, 18, rfl, by decide, wd_134, dX4_step_14⟩
theorem dX4_step_17 : decode t_X4_step.2.1 17 = .ok (.iload_n 1, 1) := by decide +kernel
theorem dX4_step_18 : decode t_X4_step.2.1 18 = .ok (.iaload, 1) := by decide +kernel
theorem dX4_step_19 : decode t_X4_step.2.1 19 = .ok (.iconst 3, 1) := by decide +kernel
theorem dX4_step_20 : decode t_X4_step.2.1 20 = .ok (.if_icmp .ne 7, 3) := by decide +kernel
theorem dX4_step_23 : decode t_X4_step.2.1 23 = .ok (.iconst 2, 1) := by decide +kernel
theorem dX4_step_24 : decode t_X4_step.2.1 24 = .ok (.goto 4, 3) := by decide +kernel
theorem dX4_step_27 : decode t_X4_step.2.1 27 = .ok (.iconst 1, 1) := by decide +kernel
theorem dX4_step_28 : decode t_X4_step.2.1 28 = .ok (.ireturn, 1) := by decide +kernel
theorem wd_606 : Cond.code yX4_mostTurns cX4_mostTurns 2 (some .int) ∈ lw_gd := List.mem_filter.mpr ⟨List.mem_of_getElem? (i := 606) (by decide +kernel), by decide +kernel⟩
theorem wd_604 : Cond.instanceMethod yX4_mostTurns ∈ lw_gd := List.mem_filter.mpr ⟨List.mem_of_getElem? (i := 604) (by decide +kernel), by decide +kernel⟩
theorem wd_605 : Cond.selects RX4 yX4_mostTurns yX4_mostTurns ∈ lw_gd := List.mem_filter.mpr ⟨List.mem_of_getElem? (i := 605) (by decide +kernel), by decide +kernel⟩
theorem vX4_mostTurns : wm_calV t_X4_mostTurns 1 := ⟨⟨wd_606, wd_80, by decide +kernel, by decide +kernel, by decide +kernel⟩, wd_604, wd_605⟩
theorem dX4_mostTurns_0 : decode t_X4_mostTurns.2.1 0 = .ok (.aload_n 0, 1) := by decide +kernel
theorem dX4_mostTurns_1 : decode t_X4_mostTurns.2.1 1 = .ok (.iload_n 1, 1) := by decide +kernel
theorem dX4_mostTurns_2 : decode t_X4_mostTurns.2.1 2 = .ok (.iconst 2, 1) := by decide +kernel
theorem dX4_mostTurns_3 : decode t_X4_mostTurns.2.1 3 = .ok (.invokevirtual 41, 3) := by decide +kernel
theorem iX4_mostTurns_3 : wm_iv t_X4_mostTurns t_X4_isOf 3 := ⟨41, wd_607, dX4_mostTurns_3⟩
theorem dX4_mostTurns_6 : decode t_X4_mostTurns.2.1 6 = .ok (.ifCond .eq 7, 3) := by decide +kernel
theorem dX4_mostTurns_9 : decode t_X4_mostTurns.2.1 9 = .ok (.iconst 0, 1) := by decide +kernel
theorem dX4_mostTurns_10 : decode t_X4_mostTurns.2.1 10 = .ok (.goto 18, 3) := by decide +kernel
theorem dX4_mostTurns_13 : decode t_X4_mostTurns.2.1 13 = .ok (.aload_n 0, 1) := by decide +kernel
theorem dX4_mostTurns_14 : decode t_X4_mostTurns.2.1 14 = .ok (.getfield 18, 3) := by decide +kernel
theorem gX4_mostTurns_14 : wm_gf t_X4_mostTurns 14 4 2 := ⟨_, _, _, 18, rfl, by decide, wd_134, dX4_mostTurns_14⟩
theorem dX4_mostTurns_17 : decode t_X4_mostTurns.2.1 17 = .ok (.iload_n 1, 1) := by decide +kernel
theorem dX4_mostTurns_18 : decode t_X4_mostTurns.2.1 18 = .ok (.iaload, 1) := by decide +kernel
theorem dX4_mostTurns_19 : decode t_X4_mostTurns.2.1 19 = .ok (.iconst 3, 1) := by decide +kernel
theorem dX4_mostTurns_20 : decode t_X4_mostTurns.2.1 20 = .ok (.if_icmp .ne 7, 3) := by decide +kernel
theorem dX4_mostTurns_23 : decode t_X4_mostTurns.2.1 23 = .ok (.iconst 1, 1) := by decide +kernel
theorem dX4_mostTurns_24 : decode t_X4_mostTurns.2.1 24 = .ok (.goto 4, 3) := by decide +kernel
theorem dX4_mostTurns_27 : decode t_X4_mostTurns.2.1 27 = .ok (.iconst 3, 1) := by decide +kernel
theorem dX4_mostTurns_28 : decode t_X4_mostTurns.2.1 28 = .ok (.ireturn, 1) := by decide +kernel
theorem wd_819 : Cond.code yX4_mostYears cX4_mostYears 3 (some .int) ∈ lw_gd := List.mem_filter.mpr ⟨List.mem_of_getElem? (i := 819) (by decide +kernel), by decide +kernel⟩
theorem wd_817 : Cond.instanceMethod yX4_mostYears ∈ lw_gd := List.mem_filter.mpr ⟨List.mem_of_getElem? (i := 817) (by decide +kernel), by decide +kernel⟩
theorem wd_818 : Cond.selects RX4 yX4_mostYears yX4_mostYears ∈ lw_gd := List.mem_filter.mpr ⟨List.mem_of_getElem? (i := 818) (by decide +kernel), by decide +kernel⟩
theorem vX4_mostYears : wm_calV t_X4_mostYears 0 := ⟨⟨wd_819, wd_80, by decide +kernel, by decide +kernel, by decide +kernel⟩, wd_817, wd_818⟩
theorem dX4_mostYears_0 : decode t_X4_mostYears.2.1 0 = .ok (.iconst 0, 1) := by decide +kernel
theorem dX4_mostYears_1 : decode t_X4_mostYears.2.1 1 = .ok (.istore_n 1, 1) := by decide +kernel
theorem dX4_mostYears_2 : decode t_X4_mostYears.2.1 2 = .ok (.iconst 0, 1) := by decide +kernel
theorem dX4_mostYears_3 : decode t_X4_mostYears.2.1 3 = .ok (.istore_n 2, 1) := by decide +kernel
theorem dX4_mostYears_4 : decode t_X4_mostYears.2.1 4 = .ok (.iload_n 2, 1) := by decide +kernel
theorem dX4_mostYears_5 : decode t_X4_mostYears.2.1 5 = .ok (.aload_n 0, 1) := by decide +kernel
theorem dX4_mostYears_6 : decode t_X4_mostYears.2.1 6 = .ok (.invokevirtual 37, 3) := by decide +kernel
theorem iX4_mostYears_6 : wm_iv t_X4_mostYears t_X4_number 6 := ⟨37, wd_602, dX4_mostYears_6⟩
theorem dX4_mostYears_9 : decode t_X4_mostYears.2.1 9 = .ok (.if_icmp .ge 17, 3) := by decide +kernel
theorem dX4_mostYears_12 : decode t_X4_mostYears.2.1 12 = .ok (.iload_n 1, 1) := by decide +kernel
theorem dX4_mostYears_13 : decode t_X4_mostYears.2.1 13 = .ok (.aload_n 0, 1) := by decide +kernel
theorem dX4_mostYears_14 : decode t_X4_mostYears.2.1 14 = .ok (.iload_n 2, 1) := by decide +kernel
theorem dX4_mostYears_15 : decode t_X4_mostYears.2.1 15 = .ok (.invokevirtual 51, 3) := by decide +kernel
theorem wd_603 : Cond.methodLink RX4 51 yX4_mostTurns ∈ lw_gd := List.mem_filter.mpr ⟨List.mem_of_getElem? (i := 603) (by decide +kernel), by decide +kernel⟩
theorem iX4_mostYears_15 : wm_iv t_X4_mostYears t_X4_mostTurns 15 := ⟨51, wd_603, dX4_mostYears_15⟩
theorem dX4_mostYears_18 : decode t_X4_mostYears.2.1 18 = .ok (.iadd, 1) := by decide +kernel
theorem dX4_mostYears_19 : decode t_X4_mostYears.2.1 19 = .ok (.istore_n 1, 1) := by decide +kernel
theorem dX4_mostYears_20 : decode t_X4_mostYears.2.1 20 = .ok (.iinc 2 1, 3) := by decide +kernel
theorem dX4_mostYears_23 : decode t_X4_mostYears.2.1 23 = .ok (.goto (-19), 3) := by decide +kernel
theorem dX4_mostYears_26 : decode t_X4_mostYears.2.1 26 = .ok (.iload_n 1, 1) := by decide +kernel
theorem dX4_mostYears_27 : decode t_X4_mostYears.2.1 27 = .ok (.ireturn, 1) := by decide +kernel
theorem wd_760 : Cond.code yX4_moved cX4_moved 3 (some .int) ∈ lw_gd := List.mem_filter.mpr ⟨List.mem_of_getElem? (i := 760) (by decide +kernel), by decide +kernel⟩
theorem wd_758 : Cond.instanceMethod yX4_moved ∈ lw_gd := List.mem_filter.mpr ⟨List.mem_of_getElem? (i := 758) (by decide +kernel), by decide +kernel⟩
theorem wd_759 : Cond.selects RX4 yX4_moved yX4_moved ∈ lw_gd := List.mem_filter.mpr ⟨List.mem_of_getElem? (i := 759) (by decide +kernel), by decide +kernel⟩
theorem vX4_moved : wm_calV t_X4_moved 2 := ⟨⟨wd_760, wd_80, by decide +kernel, by decide +kernel, by decide +kernel⟩, wd_758, wd_759⟩
theorem dX4_moved_0 : decode t_X4_moved.2.1 0 = .ok (.iload_n 1, 1) := by decide +kernel
theorem dX4_moved_1 : decode t_X4_moved.2.1 1 = .ok (.iload_n 2, 1) := by decide +kernel
theorem dX4_moved_2 : decode t_X4_moved.2.1 2 = .ok (.aload_n 0, 1) := by decide +kernel
theorem dX4_moved_3 : decode t_X4_moved.2.1 3 = .ok (.iload_n 2, 1) := by decide +kernel
theorem dX4_moved_4 : decode t_X4_moved.2.1 4 = .ok (.invokevirtual 54, 3) := by decide +kernel
theorem wd_761 : Cond.methodLink RX4 54 yX4_step ∈ lw_gd := List.mem_filter.mpr ⟨List.mem_of_getElem? (i := 761) (by decide +kernel), by decide +kernel⟩
theorem iX4_moved_4 : wm_iv t_X4_moved t_X4_step 4 := ⟨54, wd_761, dX4_moved_4⟩
theorem dX4_moved_7 : decode t_X4_moved.2.1 7 = .ok (.invokestatic 57, 3) := by decide +kernel
theorem wd_765 : Cond.methodLink RX4 57 yX4_movedBy ∈ lw_gd := List.mem_filter.mpr ⟨List.mem_of_getElem? (i := 765) (by decide +kernel), by decide +kernel⟩
theorem iX4_moved_7 : wm_is t_X4_moved t_X4_movedBy 7 := ⟨57, wd_765, dX4_moved_7⟩
theorem dX4_moved_10 : decode t_X4_moved.2.1 10 = .ok (.ireturn, 1) := by decide +kernel
theorem wd_767 : Cond.code yX4_movedBy cX4_movedBy 5 (some .int) ∈ lw_gd := List.mem_filter.mpr ⟨List.mem_of_getElem? (i := 767) (by decide +kernel), by decide +kernel⟩
theorem wd_766 : Cond.static yX4_movedBy ∈ lw_gd := List.mem_filter.mpr ⟨List.mem_of_getElem? (i := 766) (by decide +kernel), by decide +kernel⟩
theorem vX4_movedBy : wm_calS t_X4_movedBy 3 := ⟨⟨wd_767, wd_80, by decide +kernel, by decide +kernel, by decide +kernel⟩, wd_766⟩
theorem dX4_movedBy_0 : decode t_X4_movedBy.2.1 0 = .ok (.iload_n 0, 1) := by decide +kernel
theorem dX4_movedBy_1 : decode t_X4_movedBy.2.1 1 = .ok (.iload_n 1, 1) := by decide +kernel
theorem dX4_movedBy_2 : decode t_X4_movedBy.2.1 2 = .ok (.invokestatic 61, 3) := by decide +kernel
theorem wd_700 : Cond.methodLink RX4 61 yX4_quarters ∈ lw_gd := List.mem_filter.mpr ⟨List.mem_of_getElem? (i := 700) (by decide +kernel), by decide +kernel⟩
theorem iX4_movedBy_2 : wm_is t_X4_movedBy t_X4_quarters 2 := ⟨61, wd_700, dX4_movedBy_2⟩
theorem dX4_movedBy_5 : decode t_X4_movedBy.2.1 5 = .ok (.istore_n 3, 1) := by decide +kernel
theorem dX4_movedBy_6 : decode t_X4_movedBy.2.1 6 = .ok (.iload_n 3, 1) := by decide +kernel
theorem dX4_movedBy_7 : decode t_X4_movedBy.2.1 7 = .ok (.iload_n 2, 1) := by decide +kernel
theorem dX4_movedBy_8 : decode t_X4_movedBy.2.1 8 = .ok (.iadd, 1) := by decide +kernel
theorem dX4_movedBy_9 : decode t_X4_movedBy.2.1 9 = .ok (.iconst 3, 1) := by decide +kernel
theorem dX4_movedBy_10 : decode t_X4_movedBy.2.1 10 = .ok (.iand, 1) := by decide +kernel
theorem dX4_movedBy_11 : decode t_X4_movedBy.2.1 11 = .ok (.istore 4, 2) := by decide +kernel
theorem dX4_movedBy_13 : decode t_X4_movedBy.2.1 13 = .ok (.iload_n 0, 1) := by decide +kernel
theorem dX4_movedBy_14 : decode t_X4_movedBy.2.1 14 = .ok (.iload 4, 2) := by decide +kernel
theorem dX4_movedBy_16 : decode t_X4_movedBy.2.1 16 = .ok (.iload_n 3, 1) := by decide +kernel
theorem dX4_movedBy_17 : decode t_X4_movedBy.2.1 17 = .ok (.isub, 1) := by decide +kernel
theorem dX4_movedBy_18 : decode t_X4_movedBy.2.1 18 = .ok (.iconst 2, 1) := by decide +kernel
theorem dX4_movedBy_19 : decode t_X4_movedBy.2.1 19 = .ok (.iload_n 1, 1) := by decide +kernel
theorem dX4_movedBy_20 : decode t_X4_movedBy.2.1 20 = .ok (.imul, 1) := by decide +kernel
theorem dX4_movedBy_21 : decode t_X4_movedBy.2.1 21 = .ok (.ishl, 1) := by decide +kernel
theorem dX4_movedBy_22 : decode t_X4_movedBy.2.1 22 = .ok (.iadd, 1) := by decide +kernel
theorem dX4_movedBy_23 : decode t_X4_movedBy.2.1 23 = .ok (.ireturn, 1) := by decide +kernel
theorem wd_852 : Cond.code yX4_turnsBetween cX4_turnsBetween 5 (some .int) ∈ lw_gd := List.mem_filter.mpr ⟨List.mem_of_getElem? (i := 852) (by decide +kernel), by decide +kernel⟩
theorem wd_850 : Cond.instanceMethod yX4_turnsBetween ∈ lw_gd := List.mem_filter.mpr ⟨List.mem_of_getElem? (i := 850) (by decide +kernel), by decide +kernel⟩
theorem wd_851 : Cond.selects RX4 yX4_turnsBetween yX4_turnsBetween ∈ lw_gd := List.mem_filter.mpr ⟨List.mem_of_getElem? (i := 851) (by decide +kernel), by decide +kernel⟩
theorem vX4_turnsBetween : wm_calV t_X4_turnsBetween 3 := ⟨⟨wd_852, wd_80, by decide +kernel, by decide +kernel, by decide +kernel⟩, wd_850, wd_851⟩
theorem dX4_turnsBetween_0 : decode t_X4_turnsBetween.2.1 0 = .ok (.iload_n 2, 1) := by decide +kernel
theorem dX4_turnsBetween_1 : decode t_X4_turnsBetween.2.1 1 = .ok (.iload_n 3, 1) := by decide +kernel
theorem dX4_turnsBetween_2 : decode t_X4_turnsBetween.2.1 2 = .ok (.invokestatic 61, 3) := by decide +kernel
theorem iX4_turnsBetween_2 : wm_is t_X4_turnsBetween t_X4_quarters 2 := ⟨61, wd_700, dX4_turnsBetween_2⟩
theorem dX4_turnsBetween_5 : decode t_X4_turnsBetween.2.1 5 = .ok (.iload_n 1, 1) := by decide +kernel
theorem dX4_turnsBetween_6 : decode t_X4_turnsBetween.2.1 6 = .ok (.iload_n 3, 1) := by decide +kernel
theorem dX4_turnsBetween_7 : decode t_X4_turnsBetween.2.1 7 = .ok (.invokestatic 61, 3) := by decide +kernel
theorem iX4_turnsBetween_7 : wm_is t_X4_turnsBetween t_X4_quarters 7 := ⟨61, wd_700, dX4_turnsBetween_7⟩
theorem dX4_turnsBetween_10 : decode t_X4_turnsBetween.2.1 10 = .ok (.isub, 1) := by decide +kernel
theorem dX4_turnsBetween_11 : decode t_X4_turnsBetween.2.1 11 = .ok (.iconst 3, 1) := by decide +kernel
theorem dX4_turnsBetween_12 : decode t_X4_turnsBetween.2.1 12 = .ok (.iand, 1) := by decide +kernel
theorem dX4_turnsBetween_13 : decode t_X4_turnsBetween.2.1 13 = .ok (.istore 4, 2) := by decide +kernel
theorem dX4_turnsBetween_15 : decode t_X4_turnsBetween.2.1 15 = .ok (.aload_n 0, 1) := by decide +kernel
theorem dX4_turnsBetween_16 : decode t_X4_turnsBetween.2.1 16 = .ok (.getfield 18, 3) := by decide +kernel
theorem gX4_turnsBetween_16 : wm_gf t_X4_turnsBetween 16 4 2 := ⟨_, _, _, 18, rfl, by decide, wd_134, dX4_turnsBetween_16⟩
theorem dX4_turnsBetween_19 : decode t_X4_turnsBetween.2.1 19 = .ok (.iload_n 3, 1) := by decide +kernel
theorem dX4_turnsBetween_20 : decode t_X4_turnsBetween.2.1 20 = .ok (.iaload, 1) := by decide +kernel
theorem dX4_turnsBetween_21 : decode t_X4_turnsBetween.2.1 21 = .ok (.iconst 3, 1) := by decide +kernel
theorem dX4_turnsBetween_22 : decode t_X4_turnsBetween.2.1 22 = .ok (.if_icmp .ne 10, 3) := by decide +kernel
theorem dX4_turnsBetween_25 : decode t_X4_turnsBetween.2.1 25 = .ok (.iload 4, 2) := by decide +kernel
theorem dX4_turnsBetween_27 : decode t_X4_turnsBetween.2.1 27 = .ok (.iconst 2, 1) := by decide +kernel
theorem dX4_turnsBetween_28 : decode t_X4_turnsBetween.2.1 28 = .ok (.idiv, 1) := by decide +kernel
theorem dX4_turnsBetween_29 : decode t_X4_turnsBetween.2.1 29 = .ok (.goto 5, 3) := by decide +kernel
theorem dX4_turnsBetween_32 : decode t_X4_turnsBetween.2.1 32 = .ok (.iload 4, 2) := by decide +kernel
theorem dX4_turnsBetween_34 : decode t_X4_turnsBetween.2.1 34 = .ok (.ireturn, 1) := by decide +kernel
theorem wd_592 : Cond.code yX4_length cX4_length 2 (some .int) ∈ lw_gd := List.mem_filter.mpr ⟨List.mem_of_getElem? (i := 592) (by decide +kernel), by decide +kernel⟩
theorem wd_590 : Cond.instanceMethod yX4_length ∈ lw_gd := List.mem_filter.mpr ⟨List.mem_of_getElem? (i := 590) (by decide +kernel), by decide +kernel⟩
theorem wd_591 : Cond.selects RX4 yX4_length yX4_length ∈ lw_gd := List.mem_filter.mpr ⟨List.mem_of_getElem? (i := 591) (by decide +kernel), by decide +kernel⟩
theorem vX4_length : wm_calV t_X4_length 1 := ⟨⟨wd_592, wd_80, by decide +kernel, by decide +kernel, by decide +kernel⟩, wd_590, wd_591⟩
theorem dX4_length_0 : decode t_X4_length.2.1 0 = .ok (.iload_n 1, 1) := by decide +kernel
theorem dX4_length_1 : decode t_X4_length.2.1 1 = .ok (.aload_n 0, 1) := by decide +kernel
theorem dX4_length_2 : decode t_X4_length.2.1 2 = .ok (.getfield 15, 3) := by decide +kernel
theorem gX4_length_2 : wm_gf t_X4_length 2 4 1 := ⟨_, _, _, 15, rfl, by decide, wd_132, dX4_length_2⟩
theorem dX4_length_5 : decode t_X4_length.2.1 5 = .ok (.if_icmp .ge 10, 3) := by decide +kernel
theorem dX4_length_8 : decode t_X4_length.2.1 8 = .ok (.aload_n 0, 1) := by decide +kernel
theorem dX4_length_9 : decode t_X4_length.2.1 9 = .ok (.getfield 9, 3) := by decide +kernel
theorem gX4_length_9 : wm_gf t_X4_length 9 4 0 := ⟨_, _, _, 9, rfl, by decide, wd_130, dX4_length_9⟩
theorem dX4_length_12 : decode t_X4_length.2.1 12 = .ok (.goto 7, 3) := by decide +kernel
theorem dX4_length_15 : decode t_X4_length.2.1 15 = .ok (.aload_n 0, 1) := by decide +kernel
theorem dX4_length_16 : decode t_X4_length.2.1 16 = .ok (.getfield 15, 3) := by decide +kernel
theorem gX4_length_16 : wm_gf t_X4_length 16 4 1 := ⟨_, _, _, 15, rfl, by decide, wd_132, dX4_length_16⟩
theorem dX4_length_19 : decode t_X4_length.2.1 19 = .ok (.ireturn, 1) := by decide +kernel
theorem wd_611 : Cond.code yX4_stoneAt cX4_stoneAt 5 (some .int) ∈ lw_gd := List.mem_filter.mpr ⟨List.mem_of_getElem? (i := 611) (by decide +kernel), by decide +kernel⟩
theorem wd_609 : Cond.instanceMethod yX4_stoneAt ∈ lw_gd := List.mem_filter.mpr ⟨List.mem_of_getElem? (i := 609) (by decide +kernel), by decide +kernel⟩
theorem wd_610 : Cond.selects RX4 yX4_stoneAt yX4_stoneAt ∈ lw_gd := List.mem_filter.mpr ⟨List.mem_of_getElem? (i := 610) (by decide +kernel), by decide +kernel⟩
theorem vX4_stoneAt : wm_calV t_X4_stoneAt 3 := ⟨⟨wd_611, wd_80, by decide +kernel, by decide +kernel, by decide +kernel⟩, wd_609, wd_610⟩
theorem dX4_stoneAt_0 : decode t_X4_stoneAt.2.1 0 = .ok (.iload_n 2, 1) := by decide +kernel
theorem dX4_stoneAt_1 : decode t_X4_stoneAt.2.1 1 = .ok (.ifCond .ne 7, 3) := by decide +kernel
theorem dX4_stoneAt_4 : decode t_X4_stoneAt.2.1 4 = .ok (.iload_n 3, 1) := by decide +kernel
theorem dX4_stoneAt_5 : decode t_X4_stoneAt.2.1 5 = .ok (.goto 12, 3) := by decide +kernel
theorem dX4_stoneAt_8 : decode t_X4_stoneAt.2.1 8 = .ok (.aload_n 0, 1) := by decide +kernel
theorem dX4_stoneAt_9 : decode t_X4_stoneAt.2.1 9 = .ok (.iload_n 1, 1) := by decide +kernel
theorem dX4_stoneAt_10 : decode t_X4_stoneAt.2.1 10 = .ok (.invokevirtual 65, 3) := by decide +kernel
theorem wd_612 : Cond.methodLink RX4 65 yX4_length ∈ lw_gd := List.mem_filter.mpr ⟨List.mem_of_getElem? (i := 612) (by decide +kernel), by decide +kernel⟩
theorem iX4_stoneAt_10 : wm_iv t_X4_stoneAt t_X4_length 10 := ⟨65, wd_612, dX4_stoneAt_10⟩
theorem dX4_stoneAt_13 : decode t_X4_stoneAt.2.1 13 = .ok (.iconst 1, 1) := by decide +kernel
theorem dX4_stoneAt_14 : decode t_X4_stoneAt.2.1 14 = .ok (.isub, 1) := by decide +kernel
theorem dX4_stoneAt_15 : decode t_X4_stoneAt.2.1 15 = .ok (.iload_n 3, 1) := by decide +kernel
theorem dX4_stoneAt_16 : decode t_X4_stoneAt.2.1 16 = .ok (.isub, 1) := by decide +kernel
theorem dX4_stoneAt_17 : decode t_X4_stoneAt.2.1 17 = .ok (.istore 4, 2) := by decide +kernel
theorem dX4_stoneAt_19 : decode t_X4_stoneAt.2.1 19 = .ok (.iload_n 1, 1) := by decide +kernel
theorem dX4_stoneAt_20 : decode t_X4_stoneAt.2.1 20 = .ok (.aload_n 0, 1) := by decide +kernel
theorem dX4_stoneAt_21 : decode t_X4_stoneAt.2.1 21 = .ok (.getfield 15, 3) := by decide +kernel
theorem gX4_stoneAt_21 : wm_gf t_X4_stoneAt 21 4 1 := ⟨_, _, _, 15, rfl, by decide, wd_132, dX4_stoneAt_21⟩
theorem dX4_stoneAt_24 : decode t_X4_stoneAt.2.1 24 = .ok (.if_icmp .ge 15, 3) := by decide +kernel
theorem dX4_stoneAt_27 : decode t_X4_stoneAt.2.1 27 = .ok (.iload_n 1, 1) := by decide +kernel
theorem dX4_stoneAt_28 : decode t_X4_stoneAt.2.1 28 = .ok (.aload_n 0, 1) := by decide +kernel
theorem dX4_stoneAt_29 : decode t_X4_stoneAt.2.1 29 = .ok (.getfield 9, 3) := by decide +kernel
theorem gX4_stoneAt_29 : wm_gf t_X4_stoneAt 29 4 0 := ⟨_, _, _, 9, rfl, by decide, wd_130, dX4_stoneAt_29⟩
theorem dX4_stoneAt_32 : decode t_X4_stoneAt.2.1 32 = .ok (.imul, 1) := by decide +kernel
theorem dX4_stoneAt_33 : decode t_X4_stoneAt.2.1 33 = .ok (.iload 4, 2) := by decide +kernel
theorem dX4_stoneAt_35 : decode t_X4_stoneAt.2.1 35 = .ok (.iadd, 1) := by decide +kernel
theorem dX4_stoneAt_36 : decode t_X4_stoneAt.2.1 36 = .ok (.goto 17, 3) := by decide +kernel
theorem dX4_stoneAt_39 : decode t_X4_stoneAt.2.1 39 = .ok (.iload 4, 2) := by decide +kernel
theorem dX4_stoneAt_41 : decode t_X4_stoneAt.2.1 41 = .ok (.aload_n 0, 1) := by decide +kernel
theorem dX4_stoneAt_42 : decode t_X4_stoneAt.2.1 42 = .ok (.getfield 9, 3) := by decide +kernel
theorem gX4_stoneAt_42 : wm_gf t_X4_stoneAt 42 4 0 := ⟨_, _, _, 9, rfl, by decide, wd_130, dX4_stoneAt_42⟩
theorem dX4_stoneAt_45 : decode t_X4_stoneAt.2.1 45 = .ok (.imul, 1) := by decide +kernel
theorem dX4_stoneAt_46 : decode t_X4_stoneAt.2.1 46 = .ok (.iload_n 1, 1) := by decide +kernel
theorem dX4_stoneAt_47 : decode t_X4_stoneAt.2.1 47 = .ok (.iadd, 1) := by decide +kernel
theorem dX4_stoneAt_48 : decode t_X4_stoneAt.2.1 48 = .ok (.aload_n 0, 1) := by decide +kernel
theorem dX4_stoneAt_49 : decode t_X4_stoneAt.2.1 49 = .ok (.getfield 15, 3) := by decide +kernel
theorem gX4_stoneAt_49 : wm_gf t_X4_stoneAt 49 4 1 := ⟨_, _, _, 15, rfl, by decide, wd_132, dX4_stoneAt_49⟩
theorem dX4_stoneAt_52 : decode t_X4_stoneAt.2.1 52 = .ok (.isub, 1) := by decide +kernel
theorem dX4_stoneAt_53 : decode t_X4_stoneAt.2.1 53 = .ok (.ireturn, 1) := by decide +kernel
theorem wd_584 : Cond.code yX4_firstSide cX4_firstSide 3 (some .int) ∈ lw_gd := List.mem_filter.mpr ⟨List.mem_of_getElem? (i := 584) (by decide +kernel), by decide +kernel⟩
theorem wd_582 : Cond.instanceMethod yX4_firstSide ∈ lw_gd := List.mem_filter.mpr ⟨List.mem_of_getElem? (i := 582) (by decide +kernel), by decide +kernel⟩
theorem wd_583 : Cond.selects RX4 yX4_firstSide yX4_firstSide ∈ lw_gd := List.mem_filter.mpr ⟨List.mem_of_getElem? (i := 583) (by decide +kernel), by decide +kernel⟩
theorem vX4_firstSide : wm_calV t_X4_firstSide 2 := ⟨⟨wd_584, wd_80, by decide +kernel, by decide +kernel, by decide +kernel⟩, wd_582, wd_583⟩
theorem dX4_firstSide_0 : decode t_X4_firstSide.2.1 0 = .ok (.iload_n 1, 1) := by decide +kernel
theorem dX4_firstSide_1 : decode t_X4_firstSide.2.1 1 = .ok (.aload_n 0, 1) := by decide +kernel
theorem dX4_firstSide_2 : decode t_X4_firstSide.2.1 2 = .ok (.getfield 15, 3) := by decide +kernel
theorem gX4_firstSide_2 : wm_gf t_X4_firstSide 2 4 1 := ⟨_, _, _, 15, rfl, by decide, wd_132, dX4_firstSide_2⟩
theorem dX4_firstSide_5 : decode t_X4_firstSide.2.1 5 = .ok (.if_icmp .ge 7, 3) := by decide +kernel
theorem dX4_firstSide_8 : decode t_X4_firstSide.2.1 8 = .ok (.iconst 0, 1) := by decide +kernel
theorem dX4_firstSide_9 : decode t_X4_firstSide.2.1 9 = .ok (.goto 4, 3) := by decide +kernel
theorem dX4_firstSide_12 : decode t_X4_firstSide.2.1 12 = .ok (.iconst 1, 1) := by decide +kernel
theorem dX4_firstSide_13 : decode t_X4_firstSide.2.1 13 = .ok (.iconst 2, 1) := by decide +kernel
theorem dX4_firstSide_14 : decode t_X4_firstSide.2.1 14 = .ok (.iload_n 2, 1) := by decide +kernel
theorem dX4_firstSide_15 : decode t_X4_firstSide.2.1 15 = .ok (.imul, 1) := by decide +kernel
theorem dX4_firstSide_16 : decode t_X4_firstSide.2.1 16 = .ok (.iadd, 1) := by decide +kernel
theorem dX4_firstSide_17 : decode t_X4_firstSide.2.1 17 = .ok (.ireturn, 1) := by decide +kernel
theorem wd_699 : Cond.code yX4_sideRead cX4_sideRead 5 (some .int) ∈ lw_gd := List.mem_filter.mpr ⟨List.mem_of_getElem? (i := 699) (by decide +kernel), by decide +kernel⟩
theorem wd_697 : Cond.instanceMethod yX4_sideRead ∈ lw_gd := List.mem_filter.mpr ⟨List.mem_of_getElem? (i := 697) (by decide +kernel), by decide +kernel⟩
theorem wd_698 : Cond.selects RX4 yX4_sideRead yX4_sideRead ∈ lw_gd := List.mem_filter.mpr ⟨List.mem_of_getElem? (i := 698) (by decide +kernel), by decide +kernel⟩
theorem vX4_sideRead : wm_calV t_X4_sideRead 4 := ⟨⟨wd_699, wd_80, by decide +kernel, by decide +kernel, by decide +kernel⟩, wd_697, wd_698⟩
theorem dX4_sideRead_0 : decode t_X4_sideRead.2.1 0 = .ok (.iload_n 1, 1) := by decide +kernel
theorem dX4_sideRead_1 : decode t_X4_sideRead.2.1 1 = .ok (.iload_n 2, 1) := by decide +kernel
theorem dX4_sideRead_2 : decode t_X4_sideRead.2.1 2 = .ok (.invokestatic 61, 3) := by decide +kernel
theorem iX4_sideRead_2 : wm_is t_X4_sideRead t_X4_quarters 2 := ⟨61, wd_700, dX4_sideRead_2⟩
theorem dX4_sideRead_5 : decode t_X4_sideRead.2.1 5 = .ok (.aload_n 0, 1) := by decide +kernel
theorem dX4_sideRead_6 : decode t_X4_sideRead.2.1 6 = .ok (.iload_n 3, 1) := by decide +kernel
theorem dX4_sideRead_7 : decode t_X4_sideRead.2.1 7 = .ok (.iload 4, 2) := by decide +kernel
theorem dX4_sideRead_9 : decode t_X4_sideRead.2.1 9 = .ok (.invokevirtual 68, 3) := by decide +kernel
theorem wd_701 : Cond.methodLink RX4 68 yX4_firstSide ∈ lw_gd := List.mem_filter.mpr ⟨List.mem_of_getElem? (i := 701) (by decide +kernel), by decide +kernel⟩
theorem iX4_sideRead_9 : wm_iv t_X4_sideRead t_X4_firstSide 9 := ⟨68, wd_701, dX4_sideRead_9⟩
theorem dX4_sideRead_12 : decode t_X4_sideRead.2.1 12 = .ok (.iadd, 1) := by decide +kernel
theorem dX4_sideRead_13 : decode t_X4_sideRead.2.1 13 = .ok (.iconst 3, 1) := by decide +kernel
theorem dX4_sideRead_14 : decode t_X4_sideRead.2.1 14 = .ok (.iand, 1) := by decide +kernel
theorem dX4_sideRead_15 : decode t_X4_sideRead.2.1 15 = .ok (.ireturn, 1) := by decide +kernel
theorem wd_621 : Cond.code yX4_shown cX4_shown 3 (some .int) ∈ lw_gd := List.mem_filter.mpr ⟨List.mem_of_getElem? (i := 621) (by decide +kernel), by decide +kernel⟩
theorem wd_619 : Cond.instanceMethod yX4_shown ∈ lw_gd := List.mem_filter.mpr ⟨List.mem_of_getElem? (i := 619) (by decide +kernel), by decide +kernel⟩
theorem wd_620 : Cond.selects RX4 yX4_shown yX4_shown ∈ lw_gd := List.mem_filter.mpr ⟨List.mem_of_getElem? (i := 620) (by decide +kernel), by decide +kernel⟩
theorem vX4_shown : wm_calV t_X4_shown 2 := ⟨⟨wd_621, wd_80, by decide +kernel, by decide +kernel, by decide +kernel⟩, wd_619, wd_620⟩
theorem dX4_shown_0 : decode t_X4_shown.2.1 0 = .ok (.aload_n 0, 1) := by decide +kernel
theorem dX4_shown_1 : decode t_X4_shown.2.1 1 = .ok (.getfield 18, 3) := by decide +kernel
theorem gX4_shown_1 : wm_gf t_X4_shown 1 4 2 := ⟨_, _, _, 18, rfl, by decide, wd_134, dX4_shown_1⟩
theorem dX4_shown_4 : decode t_X4_shown.2.1 4 = .ok (.iload_n 1, 1) := by decide +kernel
theorem dX4_shown_5 : decode t_X4_shown.2.1 5 = .ok (.iaload, 1) := by decide +kernel
theorem dX4_shown_6 : decode t_X4_shown.2.1 6 = .ok (.iconst 5, 1) := by decide +kernel
theorem dX4_shown_7 : decode t_X4_shown.2.1 7 = .ok (.if_icmp .ne 7, 3) := by decide +kernel
theorem dX4_shown_10 : decode t_X4_shown.2.1 10 = .ok (.iconst (-1), 1) := by decide +kernel
theorem dX4_shown_11 : decode t_X4_shown.2.1 11 = .ok (.goto 13, 3) := by decide +kernel
theorem dX4_shown_14 : decode t_X4_shown.2.1 14 = .ok (.aload_n 0, 1) := by decide +kernel
theorem dX4_shown_15 : decode t_X4_shown.2.1 15 = .ok (.getfield 22, 3) := by decide +kernel
theorem gX4_shown_15 : wm_gf t_X4_shown 15 4 3 := ⟨_, _, _, 22, rfl, by decide, wd_138, dX4_shown_15⟩
theorem dX4_shown_18 : decode t_X4_shown.2.1 18 = .ok (.iconst 4, 1) := by decide +kernel
theorem dX4_shown_19 : decode t_X4_shown.2.1 19 = .ok (.iload_n 1, 1) := by decide +kernel
theorem dX4_shown_20 : decode t_X4_shown.2.1 20 = .ok (.imul, 1) := by decide +kernel
theorem dX4_shown_21 : decode t_X4_shown.2.1 21 = .ok (.iload_n 2, 1) := by decide +kernel
theorem dX4_shown_22 : decode t_X4_shown.2.1 22 = .ok (.iadd, 1) := by decide +kernel
theorem dX4_shown_23 : decode t_X4_shown.2.1 23 = .ok (.iaload, 1) := by decide +kernel
theorem dX4_shown_24 : decode t_X4_shown.2.1 24 = .ok (.ireturn, 1) := by decide +kernel
theorem wd_898 : Cond.code yX4_isMendable cX4_isMendable 3 (some .boolean) ∈ lw_gd := List.mem_filter.mpr ⟨List.mem_of_getElem? (i := 898) (by decide +kernel), by decide +kernel⟩
theorem wd_896 : Cond.instanceMethod yX4_isMendable ∈ lw_gd := List.mem_filter.mpr ⟨List.mem_of_getElem? (i := 896) (by decide +kernel), by decide +kernel⟩
theorem wd_897 : Cond.selects RX4 yX4_isMendable yX4_isMendable ∈ lw_gd := List.mem_filter.mpr ⟨List.mem_of_getElem? (i := 897) (by decide +kernel), by decide +kernel⟩
theorem vX4_isMendable : wm_calV t_X4_isMendable 2 := ⟨⟨wd_898, wd_80, by decide +kernel, by decide +kernel, by decide +kernel⟩, wd_896, wd_897⟩
theorem dX4_isMendable_0 : decode t_X4_isMendable.2.1 0 = .ok (.aload_n 0, 1) := by decide +kernel
theorem dX4_isMendable_1 : decode t_X4_isMendable.2.1 1 = .ok (.getfield 18, 3) := by decide +kernel
theorem gX4_isMendable_1 : wm_gf t_X4_isMendable 1 4 2 := ⟨_, _, _, 18, rfl, by decide, wd_134, dX4_isMendable_1⟩
theorem dX4_isMendable_4 : decode t_X4_isMendable.2.1 4 = .ok (.iload_n 1, 1) := by decide +kernel
theorem dX4_isMendable_5 : decode t_X4_isMendable.2.1 5 = .ok (.iaload, 1) := by decide +kernel
theorem dX4_isMendable_6 : decode t_X4_isMendable.2.1 6 = .ok (.iconst 5, 1) := by decide +kernel
theorem dX4_isMendable_7 : decode t_X4_isMendable.2.1 7 = .ok (.if_icmp .eq 17, 3) := by decide +kernel
theorem dX4_isMendable_10 : decode t_X4_isMendable.2.1 10 = .ok (.aload_n 0, 1) := by decide +kernel
theorem dX4_isMendable_11 : decode t_X4_isMendable.2.1 11 = .ok (.getfield 25, 3) := by decide +kernel
theorem gX4_isMendable_11 : wm_gf t_X4_isMendable 11 4 4 := ⟨_, _, _, 25, rfl, by decide, wd_142, dX4_isMendable_11⟩
theorem dX4_isMendable_14 : decode t_X4_isMendable.2.1 14 = .ok (.iload_n 1, 1) := by decide +kernel
theorem dX4_isMendable_15 : decode t_X4_isMendable.2.1 15 = .ok (.iaload, 1) := by decide +kernel
theorem dX4_isMendable_16 : decode t_X4_isMendable.2.1 16 = .ok (.iload_n 2, 1) := by decide +kernel
theorem dX4_isMendable_17 : decode t_X4_isMendable.2.1 17 = .ok (.if_icmp .eq 7, 3) := by decide +kernel
theorem dX4_isMendable_20 : decode t_X4_isMendable.2.1 20 = .ok (.iconst 1, 1) := by decide +kernel
theorem dX4_isMendable_21 : decode t_X4_isMendable.2.1 21 = .ok (.goto 4, 3) := by decide +kernel
theorem dX4_isMendable_24 : decode t_X4_isMendable.2.1 24 = .ok (.iconst 0, 1) := by decide +kernel
theorem dX4_isMendable_25 : decode t_X4_isMendable.2.1 25 = .ok (.ireturn, 1) := by decide +kernel
theorem wd_597 : Cond.code yX4_quartersHad cX4_quartersHad 4 (none) ∈ lw_gd := List.mem_filter.mpr ⟨List.mem_of_getElem? (i := 597) (by decide +kernel), by decide +kernel⟩
theorem wd_595 : Cond.instanceMethod yX4_quartersHad ∈ lw_gd := List.mem_filter.mpr ⟨List.mem_of_getElem? (i := 595) (by decide +kernel), by decide +kernel⟩
theorem wd_596 : Cond.selects RX4 yX4_quartersHad yX4_quartersHad ∈ lw_gd := List.mem_filter.mpr ⟨List.mem_of_getElem? (i := 596) (by decide +kernel), by decide +kernel⟩
theorem vX4_quartersHad : wm_calV t_X4_quartersHad 1 := ⟨⟨wd_597, wd_80, by decide +kernel, by decide +kernel, by decide +kernel⟩, wd_595, wd_596⟩
theorem dX4_quartersHad_0 : decode t_X4_quartersHad.2.1 0 = .ok (.iconst 0, 1) := by decide +kernel
theorem dX4_quartersHad_1 : decode t_X4_quartersHad.2.1 1 = .ok (.istore_n 2, 1) := by decide +kernel
theorem dX4_quartersHad_2 : decode t_X4_quartersHad.2.1 2 = .ok (.iload_n 2, 1) := by decide +kernel
theorem dX4_quartersHad_3 : decode t_X4_quartersHad.2.1 3 = .ok (.bipush 6, 2) := by decide +kernel
theorem dX4_quartersHad_5 : decode t_X4_quartersHad.2.1 5 = .ok (.if_icmp .ge 56, 3) := by decide +kernel
theorem dX4_quartersHad_8 : decode t_X4_quartersHad.2.1 8 = .ok (.iload_n 2, 1) := by decide +kernel
theorem dX4_quartersHad_9 : decode t_X4_quartersHad.2.1 9 = .ok (.aload_n 1, 1) := by decide +kernel
theorem dX4_quartersHad_10 : decode t_X4_quartersHad.2.1 10 = .ok (.arraylength, 1) := by decide +kernel
theorem dX4_quartersHad_11 : decode t_X4_quartersHad.2.1 11 = .ok (.if_icmp .ge 50, 3) := by decide +kernel
theorem dX4_quartersHad_14 : decode t_X4_quartersHad.2.1 14 = .ok (.aload_n 0, 1) := by decide +kernel
theorem dX4_quartersHad_15 : decode t_X4_quartersHad.2.1 15 = .ok (.iload_n 2, 1) := by decide +kernel
theorem dX4_quartersHad_16 : decode t_X4_quartersHad.2.1 16 = .ok (.invokevirtual 71, 3) := by decide +kernel
theorem wd_598 : Cond.methodLink RX4 71 yX4_knows ∈ lw_gd := List.mem_filter.mpr ⟨List.mem_of_getElem? (i := 598) (by decide +kernel), by decide +kernel⟩
theorem iX4_quartersHad_16 : wm_iv t_X4_quartersHad t_X4_knows 16 := ⟨71, wd_598, dX4_quartersHad_16⟩
theorem dX4_quartersHad_19 : decode t_X4_quartersHad.2.1 19 = .ok (.ifCond .eq 11, 3) := by decide +kernel
theorem dX4_quartersHad_22 : decode t_X4_quartersHad.2.1 22 = .ok (.aload_n 0, 1) := by decide +kernel
theorem dX4_quartersHad_23 : decode t_X4_quartersHad.2.1 23 = .ok (.iload_n 2, 1) := by decide +kernel
theorem dX4_quartersHad_24 : decode t_X4_quartersHad.2.1 24 = .ok (.invokevirtual 51, 3) := by decide +kernel
theorem iX4_quartersHad_24 : wm_iv t_X4_quartersHad t_X4_mostTurns 24 := ⟨51, wd_603, dX4_quartersHad_24⟩
theorem dX4_quartersHad_27 : decode t_X4_quartersHad.2.1 27 = .ok (.goto 4, 3) := by decide +kernel
theorem dX4_quartersHad_30 : decode t_X4_quartersHad.2.1 30 = .ok (.iconst 0, 1) := by decide +kernel
theorem dX4_quartersHad_31 : decode t_X4_quartersHad.2.1 31 = .ok (.istore_n 3, 1) := by decide +kernel
theorem dX4_quartersHad_32 : decode t_X4_quartersHad.2.1 32 = .ok (.aload_n 1, 1) := by decide +kernel
theorem dX4_quartersHad_33 : decode t_X4_quartersHad.2.1 33 = .ok (.iload_n 2, 1) := by decide +kernel
theorem dX4_quartersHad_34 : decode t_X4_quartersHad.2.1 34 = .ok (.iload_n 3, 1) := by decide +kernel
theorem dX4_quartersHad_35 : decode t_X4_quartersHad.2.1 35 = .ok (.iconst 3, 1) := by decide +kernel
theorem dX4_quartersHad_36 : decode t_X4_quartersHad.2.1 36 = .ok (.if_icmp .ne 8, 3) := by decide +kernel
theorem dX4_quartersHad_39 : decode t_X4_quartersHad.2.1 39 = .ok (.bipush 15, 2) := by decide +kernel
theorem dX4_quartersHad_41 : decode t_X4_quartersHad.2.1 41 = .ok (.goto 13, 3) := by decide +kernel
theorem dX4_quartersHad_44 : decode t_X4_quartersHad.2.1 44 = .ok (.iload_n 3, 1) := by decide +kernel
theorem dX4_quartersHad_45 : decode t_X4_quartersHad.2.1 45 = .ok (.iconst 1, 1) := by decide +kernel
theorem dX4_quartersHad_46 : decode t_X4_quartersHad.2.1 46 = .ok (.if_icmp .ne 7, 3) := by decide +kernel
theorem dX4_quartersHad_49 : decode t_X4_quartersHad.2.1 49 = .ok (.iconst 5, 1) := by decide +kernel
theorem dX4_quartersHad_50 : decode t_X4_quartersHad.2.1 50 = .ok (.goto 4, 3) := by decide +kernel
theorem dX4_quartersHad_53 : decode t_X4_quartersHad.2.1 53 = .ok (.iconst 1, 1) := by decide +kernel
theorem dX4_quartersHad_54 : decode t_X4_quartersHad.2.1 54 = .ok (.iastore, 1) := by decide +kernel
theorem dX4_quartersHad_55 : decode t_X4_quartersHad.2.1 55 = .ok (.iinc 2 1, 3) := by decide +kernel
theorem dX4_quartersHad_58 : decode t_X4_quartersHad.2.1 58 = .ok (.goto (-56), 3) := by decide +kernel
theorem dX4_quartersHad_61 : decode t_X4_quartersHad.2.1 61 = .ok (.return_, 1) := by decide +kernel
theorem wd_617 : Cond.code yX4_quartersShowing cX4_quartersShowing 6 (some .int) ∈ lw_gd := List.mem_filter.mpr ⟨List.mem_of_getElem? (i := 617) (by decide +kernel), by decide +kernel⟩
theorem wd_615 : Cond.instanceMethod yX4_quartersShowing ∈ lw_gd := List.mem_filter.mpr ⟨List.mem_of_getElem? (i := 615) (by decide +kernel), by decide +kernel⟩
theorem wd_616 : Cond.selects RX4 yX4_quartersShowing yX4_quartersShowing ∈ lw_gd := List.mem_filter.mpr ⟨List.mem_of_getElem? (i := 616) (by decide +kernel), by decide +kernel⟩
theorem vX4_quartersShowing : wm_calV t_X4_quartersShowing 3 := ⟨⟨wd_617, wd_80, by decide +kernel, by decide +kernel, by decide +kernel⟩, wd_615, wd_616⟩
theorem dX4_quartersShowing_0 : decode t_X4_quartersShowing.2.1 0 = .ok (.iconst 0, 1) := by decide +kernel
theorem dX4_quartersShowing_1 : decode t_X4_quartersShowing.2.1 1 = .ok (.istore 4, 2) := by decide +kernel
theorem dX4_quartersShowing_3 : decode t_X4_quartersShowing.2.1 3 = .ok (.iconst 0, 1) := by decide +kernel
theorem dX4_quartersShowing_4 : decode t_X4_quartersShowing.2.1 4 = .ok (.istore 5, 2) := by decide +kernel
theorem dX4_quartersShowing_6 : decode t_X4_quartersShowing.2.1 6 = .ok (.iload 5, 2) := by decide +kernel
theorem dX4_quartersShowing_8 : decode t_X4_quartersShowing.2.1 8 = .ok (.iconst 4, 1) := by decide +kernel
theorem dX4_quartersShowing_9 : decode t_X4_quartersShowing.2.1 9 = .ok (.if_icmp .ge 33, 3) := by decide +kernel
theorem dX4_quartersShowing_12 : decode t_X4_quartersShowing.2.1 12 = .ok (.aload_n 0, 1) := by decide +kernel
theorem dX4_quartersShowing_13 : decode t_X4_quartersShowing.2.1 13 = .ok (.iload_n 1, 1) := by decide +kernel
theorem dX4_quartersShowing_14 : decode t_X4_quartersShowing.2.1 14 = .ok (.iload 5, 2) := by decide +kernel
theorem dX4_quartersShowing_16 : decode t_X4_quartersShowing.2.1 16 = .ok (.iload_n 2, 1) := by decide +kernel
theorem dX4_quartersShowing_17 : decode t_X4_quartersShowing.2.1 17 = .ok (.iadd, 1) := by decide +kernel
theorem dX4_quartersShowing_18 : decode t_X4_quartersShowing.2.1 18 = .ok (.iconst 3, 1) := by decide +kernel
theorem dX4_quartersShowing_19 : decode t_X4_quartersShowing.2.1 19 = .ok (.iand, 1) := by decide +kernel
theorem dX4_quartersShowing_20 : decode t_X4_quartersShowing.2.1 20 = .ok (.invokevirtual 75, 3) := by decide +kernel
theorem wd_618 : Cond.methodLink RX4 75 yX4_shown ∈ lw_gd := List.mem_filter.mpr ⟨List.mem_of_getElem? (i := 618) (by decide +kernel), by decide +kernel⟩
theorem iX4_quartersShowing_20 : wm_iv t_X4_quartersShowing t_X4_shown 20 := ⟨75, wd_618, dX4_quartersShowing_20⟩
theorem dX4_quartersShowing_23 : decode t_X4_quartersShowing.2.1 23 = .ok (.iload_n 3, 1) := by decide +kernel
theorem dX4_quartersShowing_24 : decode t_X4_quartersShowing.2.1 24 = .ok (.if_icmp .ne 12, 3) := by decide +kernel
theorem dX4_quartersShowing_27 : decode t_X4_quartersShowing.2.1 27 = .ok (.iload 4, 2) := by decide +kernel
theorem dX4_quartersShowing_29 : decode t_X4_quartersShowing.2.1 29 = .ok (.iconst 1, 1) := by decide +kernel
theorem dX4_quartersShowing_30 : decode t_X4_quartersShowing.2.1 30 = .ok (.iload 5, 2) := by decide +kernel
theorem dX4_quartersShowing_32 : decode t_X4_quartersShowing.2.1 32 = .ok (.ishl, 1) := by decide +kernel
theorem dX4_quartersShowing_33 : decode t_X4_quartersShowing.2.1 33 = .ok (.ior, 1) := by decide +kernel
theorem dX4_quartersShowing_34 : decode t_X4_quartersShowing.2.1 34 = .ok (.istore 4, 2) := by decide +kernel
theorem dX4_quartersShowing_36 : decode t_X4_quartersShowing.2.1 36 = .ok (.iinc 5 1, 3) := by decide +kernel
theorem dX4_quartersShowing_39 : decode t_X4_quartersShowing.2.1 39 = .ok (.goto (-33), 3) := by decide +kernel
theorem dX4_quartersShowing_42 : decode t_X4_quartersShowing.2.1 42 = .ok (.iload 4, 2) := by decide +kernel
theorem dX4_quartersShowing_44 : decode t_X4_quartersShowing.2.1 44 = .ok (.ireturn, 1) := by decide +kernel
theorem wd_894 : Cond.code yX4_turnsTo cX4_turnsTo 5 (some .int) ∈ lw_gd := List.mem_filter.mpr ⟨List.mem_of_getElem? (i := 894) (by decide +kernel), by decide +kernel⟩
theorem wd_892 : Cond.instanceMethod yX4_turnsTo ∈ lw_gd := List.mem_filter.mpr ⟨List.mem_of_getElem? (i := 892) (by decide +kernel), by decide +kernel⟩
theorem wd_893 : Cond.selects RX4 yX4_turnsTo yX4_turnsTo ∈ lw_gd := List.mem_filter.mpr ⟨List.mem_of_getElem? (i := 893) (by decide +kernel), by decide +kernel⟩
theorem vX4_turnsTo : wm_calV t_X4_turnsTo 3 := ⟨⟨wd_894, wd_80, by decide +kernel, by decide +kernel, by decide +kernel⟩, wd_892, wd_893⟩
theorem dX4_turnsTo_0 : decode t_X4_turnsTo.2.1 0 = .ok (.iconst 0, 1) := by decide +kernel
theorem dX4_turnsTo_1 : decode t_X4_turnsTo.2.1 1 = .ok (.istore 4, 2) := by decide +kernel
theorem dX4_turnsTo_3 : decode t_X4_turnsTo.2.1 3 = .ok (.iload 4, 2) := by decide +kernel
theorem dX4_turnsTo_5 : decode t_X4_turnsTo.2.1 5 = .ok (.aload_n 0, 1) := by decide +kernel
theorem dX4_turnsTo_6 : decode t_X4_turnsTo.2.1 6 = .ok (.iload_n 1, 1) := by decide +kernel
theorem dX4_turnsTo_7 : decode t_X4_turnsTo.2.1 7 = .ok (.invokevirtual 51, 3) := by decide +kernel
theorem iX4_turnsTo_7 : wm_iv t_X4_turnsTo t_X4_mostTurns 7 := ⟨51, wd_603, dX4_turnsTo_7⟩
theorem dX4_turnsTo_10 : decode t_X4_turnsTo.2.1 10 = .ok (.if_icmp .gt 33, 3) := by decide +kernel
theorem dX4_turnsTo_13 : decode t_X4_turnsTo.2.1 13 = .ok (.aload_n 0, 1) := by decide +kernel
theorem dX4_turnsTo_14 : decode t_X4_turnsTo.2.1 14 = .ok (.iload_n 1, 1) := by decide +kernel
theorem dX4_turnsTo_15 : decode t_X4_turnsTo.2.1 15 = .ok (.iload_n 2, 1) := by decide +kernel
theorem dX4_turnsTo_16 : decode t_X4_turnsTo.2.1 16 = .ok (.iload 4, 2) := by decide +kernel
theorem dX4_turnsTo_18 : decode t_X4_turnsTo.2.1 18 = .ok (.aload_n 0, 1) := by decide +kernel
theorem dX4_turnsTo_19 : decode t_X4_turnsTo.2.1 19 = .ok (.iload_n 1, 1) := by decide +kernel
theorem dX4_turnsTo_20 : decode t_X4_turnsTo.2.1 20 = .ok (.invokevirtual 54, 3) := by decide +kernel
theorem iX4_turnsTo_20 : wm_iv t_X4_turnsTo t_X4_step 20 := ⟨54, wd_761, dX4_turnsTo_20⟩
theorem dX4_turnsTo_23 : decode t_X4_turnsTo.2.1 23 = .ok (.imul, 1) := by decide +kernel
theorem dX4_turnsTo_24 : decode t_X4_turnsTo.2.1 24 = .ok (.iadd, 1) := by decide +kernel
theorem dX4_turnsTo_25 : decode t_X4_turnsTo.2.1 25 = .ok (.iconst 3, 1) := by decide +kernel
theorem dX4_turnsTo_26 : decode t_X4_turnsTo.2.1 26 = .ok (.iand, 1) := by decide +kernel
theorem dX4_turnsTo_27 : decode t_X4_turnsTo.2.1 27 = .ok (.invokevirtual 75, 3) := by decide +kernel
theorem iX4_turnsTo_27 : wm_iv t_X4_turnsTo t_X4_shown 27 := ⟨75, wd_618, dX4_turnsTo_27⟩
theorem dX4_turnsTo_30 : decode t_X4_turnsTo.2.1 30 = .ok (.iload_n 3, 1) := by decide +kernel
theorem dX4_turnsTo_31 : decode t_X4_turnsTo.2.1 31 = .ok (.if_icmp .ne 6, 3) := by decide +kernel
theorem dX4_turnsTo_34 : decode t_X4_turnsTo.2.1 34 = .ok (.iload 4, 2) := by decide +kernel
theorem dX4_turnsTo_36 : decode t_X4_turnsTo.2.1 36 = .ok (.ireturn, 1) := by decide +kernel
theorem dX4_turnsTo_37 : decode t_X4_turnsTo.2.1 37 = .ok (.iinc 4 1, 3) := by decide +kernel
theorem dX4_turnsTo_40 : decode t_X4_turnsTo.2.1 40 = .ok (.goto (-37), 3) := by decide +kernel
theorem dX4_turnsTo_43 : decode t_X4_turnsTo.2.1 43 = .ok (.bipush (-9), 2) := by decide +kernel
theorem dX4_turnsTo_45 : decode t_X4_turnsTo.2.1 45 = .ok (.ireturn, 1) := by decide +kernel
