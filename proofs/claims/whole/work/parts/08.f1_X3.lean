theorem wd_568 : Cond.code yX3_clear cX3_clear 1 (none) ∈ lw_gd := List.mem_filter.mpr ⟨List.mem_of_getElem? (i := 568) (by decide +kernel), by decide +kernel⟩
theorem wd_83 : Cond.initialized RX3 ∈ lw_gd := List.mem_filter.mpr ⟨List.mem_of_getElem? (i := 83) (by decide +kernel), by decide +kernel⟩
theorem wd_566 : Cond.instanceMethod yX3_clear ∈ lw_gd := List.mem_filter.mpr ⟨List.mem_of_getElem? (i := 566) (by decide +kernel), by decide +kernel⟩
theorem wd_567 : Cond.selects RX3 yX3_clear yX3_clear ∈ lw_gd := List.mem_filter.mpr ⟨List.mem_of_getElem? (i := 567) (by decide +kernel), by decide +kernel⟩
theorem vX3_clear : wm_calV t_X3_clear 0 := ⟨⟨wd_568, wd_83, by decide +kernel, by decide +kernel, by decide +kernel⟩, wd_566, wd_567⟩
theorem dX3_clear_0 : decode t_X3_clear.2.1 0 = .ok (.aload_n 0, 1) := by decide +kernel
theorem dX3_clear_1 : decode t_X3_clear.2.1 1 = .ok (.getfield 9, 3) := by decide +kernel
theorem wd_199 : Cond.fieldLink RX3 9 "TurnedStones$StateSet" "bits" "[J" ∈ lw_gd := List.mem_filter.mpr ⟨List.mem_of_getElem? (i := 199) (by decide +kernel), by decide +kernel⟩
theorem gX3_clear_1 : wm_gf t_X3_clear 1 3 0 := ⟨_, _, _, 9, rfl, by decide, wd_199, dX3_clear_1⟩
theorem dX3_clear_4 : decode t_X3_clear.2.1 4 = .ok (.lconst 0, 1) := by decide +kernel
theorem dX3_clear_5 : decode t_X3_clear.2.1 5 = .ok (.invokestatic 15, 3) := by decide +kernel
theorem wd_569 : Cond.methodLink RX3 15 yJ7_fill_d0a16 ∈ lw_gd := List.mem_filter.mpr ⟨List.mem_of_getElem? (i := 569) (by decide +kernel), by decide +kernel⟩
theorem iX3_clear_5 : wm_is t_X3_clear t_J7_fill_d0a16 5 := ⟨15, wd_569, dX3_clear_5⟩
theorem dX3_clear_8 : decode t_X3_clear.2.1 8 = .ok (.return_, 1) := by decide +kernel
theorem wd_833 : Cond.code yX3_take cX3_take 2 (none) ∈ lw_gd := List.mem_filter.mpr ⟨List.mem_of_getElem? (i := 833) (by decide +kernel), by decide +kernel⟩
theorem wd_831 : Cond.instanceMethod yX3_take ∈ lw_gd := List.mem_filter.mpr ⟨List.mem_of_getElem? (i := 831) (by decide +kernel), by decide +kernel⟩
theorem wd_832 : Cond.selects RX3 yX3_take yX3_take ∈ lw_gd := List.mem_filter.mpr ⟨List.mem_of_getElem? (i := 832) (by decide +kernel), by decide +kernel⟩
theorem vX3_take : wm_calV t_X3_take 1 := ⟨⟨wd_833, wd_83, by decide +kernel, by decide +kernel, by decide +kernel⟩, wd_831, wd_832⟩
theorem dX3_take_0 : decode t_X3_take.2.1 0 = .ok (.aload_n 1, 1) := by decide +kernel
theorem dX3_take_1 : decode t_X3_take.2.1 1 = .ok (.getfield 9, 3) := by decide +kernel
theorem gX3_take_1 : wm_gf t_X3_take 1 3 0 := ⟨_, _, _, 9, rfl, by decide, wd_199, dX3_take_1⟩
theorem dX3_take_4 : decode t_X3_take.2.1 4 = .ok (.iconst 0, 1) := by decide +kernel
theorem dX3_take_5 : decode t_X3_take.2.1 5 = .ok (.aload_n 0, 1) := by decide +kernel
theorem dX3_take_6 : decode t_X3_take.2.1 6 = .ok (.getfield 9, 3) := by decide +kernel
theorem gX3_take_6 : wm_gf t_X3_take 6 3 0 := ⟨_, _, _, 9, rfl, by decide, wd_199, dX3_take_6⟩
theorem dX3_take_9 : decode t_X3_take.2.1 9 = .ok (.iconst 0, 1) := by decide +kernel
theorem dX3_take_10 : decode t_X3_take.2.1 10 = .ok (.bipush 64, 2) := by decide +kernel
theorem dX3_take_12 : decode t_X3_take.2.1 12 = .ok (.invokestatic 21, 3) := by decide +kernel
theorem wd_834 : Cond.methodLink RX3 21 arraycopyName ∈ lw_gd := List.mem_filter.mpr ⟨List.mem_of_getElem? (i := 834) (by decide +kernel), by decide +kernel⟩
theorem iX3_take_12 : wm_ij t_X3_take arraycopyName 12 := ⟨21, wd_834, dX3_take_12⟩
theorem dX3_take_15 : decode t_X3_take.2.1 15 = .ok (.return_, 1) := by decide +kernel
theorem wd_814 : Cond.code yX3_only cX3_only 2 (none) ∈ lw_gd := List.mem_filter.mpr ⟨List.mem_of_getElem? (i := 814) (by decide +kernel), by decide +kernel⟩
theorem wd_812 : Cond.instanceMethod yX3_only ∈ lw_gd := List.mem_filter.mpr ⟨List.mem_of_getElem? (i := 812) (by decide +kernel), by decide +kernel⟩
theorem wd_813 : Cond.selects RX3 yX3_only yX3_only ∈ lw_gd := List.mem_filter.mpr ⟨List.mem_of_getElem? (i := 813) (by decide +kernel), by decide +kernel⟩
theorem vX3_only : wm_calV t_X3_only 1 := ⟨⟨wd_814, wd_83, by decide +kernel, by decide +kernel, by decide +kernel⟩, wd_812, wd_813⟩
theorem dX3_only_0 : decode t_X3_only.2.1 0 = .ok (.aload_n 0, 1) := by decide +kernel
theorem dX3_only_1 : decode t_X3_only.2.1 1 = .ok (.invokevirtual 27, 3) := by decide +kernel
theorem wd_815 : Cond.methodLink RX3 27 yX3_clear ∈ lw_gd := List.mem_filter.mpr ⟨List.mem_of_getElem? (i := 815) (by decide +kernel), by decide +kernel⟩
theorem iX3_only_1 : wm_iv t_X3_only t_X3_clear 1 := ⟨27, wd_815, dX3_only_1⟩
theorem dX3_only_4 : decode t_X3_only.2.1 4 = .ok (.iload_n 1, 1) := by decide +kernel
theorem dX3_only_5 : decode t_X3_only.2.1 5 = .ok (.ifCond .lt 25, 3) := by decide +kernel
theorem dX3_only_8 : decode t_X3_only.2.1 8 = .ok (.iload_n 1, 1) := by decide +kernel
theorem dX3_only_9 : decode t_X3_only.2.1 9 = .ok (.sipush 4096, 3) := by decide +kernel
theorem dX3_only_12 : decode t_X3_only.2.1 12 = .ok (.if_icmp .ge 18, 3) := by decide +kernel
theorem dX3_only_15 : decode t_X3_only.2.1 15 = .ok (.aload_n 0, 1) := by decide +kernel
theorem dX3_only_16 : decode t_X3_only.2.1 16 = .ok (.getfield 9, 3) := by decide +kernel
theorem gX3_only_16 : wm_gf t_X3_only 16 3 0 := ⟨_, _, _, 9, rfl, by decide, wd_199, dX3_only_16⟩
theorem dX3_only_19 : decode t_X3_only.2.1 19 = .ok (.iload_n 1, 1) := by decide +kernel
theorem dX3_only_20 : decode t_X3_only.2.1 20 = .ok (.bipush 6, 2) := by decide +kernel
theorem dX3_only_22 : decode t_X3_only.2.1 22 = .ok (.ishr, 1) := by decide +kernel
theorem dX3_only_23 : decode t_X3_only.2.1 23 = .ok (.lconst 1, 1) := by decide +kernel
theorem dX3_only_24 : decode t_X3_only.2.1 24 = .ok (.iload_n 1, 1) := by decide +kernel
theorem dX3_only_25 : decode t_X3_only.2.1 25 = .ok (.bipush 63, 2) := by decide +kernel
theorem dX3_only_27 : decode t_X3_only.2.1 27 = .ok (.iand, 1) := by decide +kernel
theorem dX3_only_28 : decode t_X3_only.2.1 28 = .ok (.lshl, 1) := by decide +kernel
theorem dX3_only_29 : decode t_X3_only.2.1 29 = .ok (.lastore, 1) := by decide +kernel
theorem dX3_only_30 : decode t_X3_only.2.1 30 = .ok (.return_, 1) := by decide +kernel
theorem wd_744 : Cond.code yX3_has cX3_has 2 (some .boolean) ∈ lw_gd := List.mem_filter.mpr ⟨List.mem_of_getElem? (i := 744) (by decide +kernel), by decide +kernel⟩
theorem wd_742 : Cond.instanceMethod yX3_has ∈ lw_gd := List.mem_filter.mpr ⟨List.mem_of_getElem? (i := 742) (by decide +kernel), by decide +kernel⟩
theorem wd_743 : Cond.selects RX3 yX3_has yX3_has ∈ lw_gd := List.mem_filter.mpr ⟨List.mem_of_getElem? (i := 743) (by decide +kernel), by decide +kernel⟩
theorem vX3_has : wm_calV t_X3_has 1 := ⟨⟨wd_744, wd_83, by decide +kernel, by decide +kernel, by decide +kernel⟩, wd_742, wd_743⟩
theorem dX3_has_0 : decode t_X3_has.2.1 0 = .ok (.iload_n 1, 1) := by decide +kernel
theorem dX3_has_1 : decode t_X3_has.2.1 1 = .ok (.ifCond .lt 35, 3) := by decide +kernel
theorem dX3_has_4 : decode t_X3_has.2.1 4 = .ok (.iload_n 1, 1) := by decide +kernel
theorem dX3_has_5 : decode t_X3_has.2.1 5 = .ok (.sipush 4096, 3) := by decide +kernel
theorem dX3_has_8 : decode t_X3_has.2.1 8 = .ok (.if_icmp .ge 28, 3) := by decide +kernel
theorem dX3_has_11 : decode t_X3_has.2.1 11 = .ok (.aload_n 0, 1) := by decide +kernel
theorem dX3_has_12 : decode t_X3_has.2.1 12 = .ok (.getfield 9, 3) := by decide +kernel
theorem gX3_has_12 : wm_gf t_X3_has 12 3 0 := ⟨_, _, _, 9, rfl, by decide, wd_199, dX3_has_12⟩
theorem dX3_has_15 : decode t_X3_has.2.1 15 = .ok (.iload_n 1, 1) := by decide +kernel
theorem dX3_has_16 : decode t_X3_has.2.1 16 = .ok (.bipush 6, 2) := by decide +kernel
theorem dX3_has_18 : decode t_X3_has.2.1 18 = .ok (.ishr, 1) := by decide +kernel
theorem dX3_has_19 : decode t_X3_has.2.1 19 = .ok (.laload, 1) := by decide +kernel
theorem dX3_has_20 : decode t_X3_has.2.1 20 = .ok (.iload_n 1, 1) := by decide +kernel
theorem dX3_has_21 : decode t_X3_has.2.1 21 = .ok (.bipush 63, 2) := by decide +kernel
theorem dX3_has_23 : decode t_X3_has.2.1 23 = .ok (.iand, 1) := by decide +kernel
theorem dX3_has_24 : decode t_X3_has.2.1 24 = .ok (.lushr, 1) := by decide +kernel
theorem dX3_has_25 : decode t_X3_has.2.1 25 = .ok (.lconst 1, 1) := by decide +kernel
theorem dX3_has_26 : decode t_X3_has.2.1 26 = .ok (.land, 1) := by decide +kernel
theorem dX3_has_27 : decode t_X3_has.2.1 27 = .ok (.lconst 1, 1) := by decide +kernel
theorem dX3_has_28 : decode t_X3_has.2.1 28 = .ok (.lcmp, 1) := by decide +kernel
theorem dX3_has_29 : decode t_X3_has.2.1 29 = .ok (.ifCond .ne 7, 3) := by decide +kernel
theorem dX3_has_32 : decode t_X3_has.2.1 32 = .ok (.iconst 1, 1) := by decide +kernel
theorem dX3_has_33 : decode t_X3_has.2.1 33 = .ok (.goto 4, 3) := by decide +kernel
theorem dX3_has_36 : decode t_X3_has.2.1 36 = .ok (.iconst 0, 1) := by decide +kernel
theorem dX3_has_37 : decode t_X3_has.2.1 37 = .ok (.ireturn, 1) := by decide +kernel
theorem wd_810 : Cond.code yX3_isEmpty cX3_isEmpty 2 (some .boolean) ∈ lw_gd := List.mem_filter.mpr ⟨List.mem_of_getElem? (i := 810) (by decide +kernel), by decide +kernel⟩
theorem wd_808 : Cond.instanceMethod yX3_isEmpty ∈ lw_gd := List.mem_filter.mpr ⟨List.mem_of_getElem? (i := 808) (by decide +kernel), by decide +kernel⟩
theorem wd_809 : Cond.selects RX3 yX3_isEmpty yX3_isEmpty ∈ lw_gd := List.mem_filter.mpr ⟨List.mem_of_getElem? (i := 809) (by decide +kernel), by decide +kernel⟩
theorem vX3_isEmpty : wm_calV t_X3_isEmpty 0 := ⟨⟨wd_810, wd_83, by decide +kernel, by decide +kernel, by decide +kernel⟩, wd_808, wd_809⟩
theorem dX3_isEmpty_0 : decode t_X3_isEmpty.2.1 0 = .ok (.iconst 0, 1) := by decide +kernel
theorem dX3_isEmpty_1 : decode t_X3_isEmpty.2.1 1 = .ok (.istore_n 1, 1) := by decide +kernel
theorem dX3_isEmpty_2 : decode t_X3_isEmpty.2.1 2 = .ok (.iload_n 1, 1) := by decide +kernel
theorem dX3_isEmpty_3 : decode t_X3_isEmpty.2.1 3 = .ok (.bipush 64, 2) := by decide +kernel
theorem dX3_isEmpty_5 : decode t_X3_isEmpty.2.1 5 = .ok (.if_icmp .ge 22, 3) := by decide +kernel
theorem dX3_isEmpty_8 : decode t_X3_isEmpty.2.1 8 = .ok (.aload_n 0, 1) := by decide +kernel
theorem dX3_isEmpty_9 : decode t_X3_isEmpty.2.1 9 = .ok (.getfield 9, 3) := by decide +kernel
theorem gX3_isEmpty_9 : wm_gf t_X3_isEmpty 9 3 0 := ⟨_, _, _, 9, rfl, by decide, wd_199, dX3_isEmpty_9⟩
theorem dX3_isEmpty_12 : decode t_X3_isEmpty.2.1 12 = .ok (.iload_n 1, 1) := by decide +kernel
theorem dX3_isEmpty_13 : decode t_X3_isEmpty.2.1 13 = .ok (.laload, 1) := by decide +kernel
theorem dX3_isEmpty_14 : decode t_X3_isEmpty.2.1 14 = .ok (.lconst 0, 1) := by decide +kernel
theorem dX3_isEmpty_15 : decode t_X3_isEmpty.2.1 15 = .ok (.lcmp, 1) := by decide +kernel
theorem dX3_isEmpty_16 : decode t_X3_isEmpty.2.1 16 = .ok (.ifCond .eq 5, 3) := by decide +kernel
theorem dX3_isEmpty_19 : decode t_X3_isEmpty.2.1 19 = .ok (.iconst 0, 1) := by decide +kernel
theorem dX3_isEmpty_20 : decode t_X3_isEmpty.2.1 20 = .ok (.ireturn, 1) := by decide +kernel
theorem dX3_isEmpty_21 : decode t_X3_isEmpty.2.1 21 = .ok (.iinc 1 1, 3) := by decide +kernel
theorem dX3_isEmpty_24 : decode t_X3_isEmpty.2.1 24 = .ok (.goto (-22), 3) := by decide +kernel
theorem dX3_isEmpty_27 : decode t_X3_isEmpty.2.1 27 = .ok (.iconst 1, 1) := by decide +kernel
theorem dX3_isEmpty_28 : decode t_X3_isEmpty.2.1 28 = .ok (.ireturn, 1) := by decide +kernel
theorem wd_865 : Cond.code yX3_size cX3_size 3 (some .int) ∈ lw_gd := List.mem_filter.mpr ⟨List.mem_of_getElem? (i := 865) (by decide +kernel), by decide +kernel⟩
theorem wd_863 : Cond.instanceMethod yX3_size ∈ lw_gd := List.mem_filter.mpr ⟨List.mem_of_getElem? (i := 863) (by decide +kernel), by decide +kernel⟩
theorem wd_864 : Cond.selects RX3 yX3_size yX3_size ∈ lw_gd := List.mem_filter.mpr ⟨List.mem_of_getElem? (i := 864) (by decide +kernel), by decide +kernel⟩
theorem vX3_size : wm_calV t_X3_size 0 := ⟨⟨wd_865, wd_83, by decide +kernel, by decide +kernel, by decide +kernel⟩, wd_863, wd_864⟩
theorem dX3_size_0 : decode t_X3_size.2.1 0 = .ok (.iconst 0, 1) := by decide +kernel
theorem dX3_size_1 : decode t_X3_size.2.1 1 = .ok (.istore_n 1, 1) := by decide +kernel
theorem dX3_size_2 : decode t_X3_size.2.1 2 = .ok (.iconst 0, 1) := by decide +kernel
theorem dX3_size_3 : decode t_X3_size.2.1 3 = .ok (.istore_n 2, 1) := by decide +kernel
theorem dX3_size_4 : decode t_X3_size.2.1 4 = .ok (.iload_n 2, 1) := by decide +kernel
theorem dX3_size_5 : decode t_X3_size.2.1 5 = .ok (.bipush 64, 2) := by decide +kernel
theorem dX3_size_7 : decode t_X3_size.2.1 7 = .ok (.if_icmp .ge 21, 3) := by decide +kernel
theorem dX3_size_10 : decode t_X3_size.2.1 10 = .ok (.iload_n 1, 1) := by decide +kernel
theorem dX3_size_11 : decode t_X3_size.2.1 11 = .ok (.aload_n 0, 1) := by decide +kernel
theorem dX3_size_12 : decode t_X3_size.2.1 12 = .ok (.getfield 9, 3) := by decide +kernel
theorem gX3_size_12 : wm_gf t_X3_size 12 3 0 := ⟨_, _, _, 9, rfl, by decide, wd_199, dX3_size_12⟩
theorem dX3_size_15 : decode t_X3_size.2.1 15 = .ok (.iload_n 2, 1) := by decide +kernel
theorem dX3_size_16 : decode t_X3_size.2.1 16 = .ok (.laload, 1) := by decide +kernel
theorem dX3_size_17 : decode t_X3_size.2.1 17 = .ok (.invokestatic 30, 3) := by decide +kernel
theorem wd_824 : Cond.methodLink RX3 30 yJ13_bitCount_95d88 ∈ lw_gd := List.mem_filter.mpr ⟨List.mem_of_getElem? (i := 824) (by decide +kernel), by decide +kernel⟩
theorem iX3_size_17 : wm_is t_X3_size t_J13_bitCount_95d88 17 := ⟨30, wd_824, dX3_size_17⟩
theorem dX3_size_20 : decode t_X3_size.2.1 20 = .ok (.iadd, 1) := by decide +kernel
theorem dX3_size_21 : decode t_X3_size.2.1 21 = .ok (.istore_n 1, 1) := by decide +kernel
theorem dX3_size_22 : decode t_X3_size.2.1 22 = .ok (.iinc 2 1, 3) := by decide +kernel
theorem dX3_size_25 : decode t_X3_size.2.1 25 = .ok (.goto (-21), 3) := by decide +kernel
theorem dX3_size_28 : decode t_X3_size.2.1 28 = .ok (.iload_n 1, 1) := by decide +kernel
theorem dX3_size_29 : decode t_X3_size.2.1 29 = .ok (.ireturn, 1) := by decide +kernel
theorem wd_1025 : Cond.code yX3_meets cX3_meets 2 (some .boolean) ∈ lw_gd := List.mem_filter.mpr ⟨List.mem_of_getElem? (i := 1025) (by decide +kernel), by decide +kernel⟩
theorem wd_1023 : Cond.instanceMethod yX3_meets ∈ lw_gd := List.mem_filter.mpr ⟨List.mem_of_getElem? (i := 1023) (by decide +kernel), by decide +kernel⟩
theorem wd_1024 : Cond.selects RX3 yX3_meets yX3_meets ∈ lw_gd := List.mem_filter.mpr ⟨List.mem_of_getElem? (i := 1024) (by decide +kernel), by decide +kernel⟩
theorem vX3_meets : wm_calV t_X3_meets 1 := ⟨⟨wd_1025, wd_83, by decide +kernel, by decide +kernel, by decide +kernel⟩, wd_1023, wd_1024⟩
theorem dX3_meets_0 : decode t_X3_meets.2.1 0 = .ok (.aload_n 0, 1) := by decide +kernel
theorem dX3_meets_1 : decode t_X3_meets.2.1 1 = .ok (.aload_n 1, 1) := by decide +kernel
theorem dX3_meets_2 : decode t_X3_meets.2.1 2 = .ok (.invokevirtual 36, 3) := by decide +kernel
theorem wd_1026 : Cond.methodLink RX3 36 yX3_leastWith ∈ lw_gd := List.mem_filter.mpr ⟨List.mem_of_getElem? (i := 1026) (by decide +kernel), by decide +kernel⟩
theorem iX3_meets_2 : wm_iv t_X3_meets t_X3_leastWith 2 := ⟨36, wd_1026, dX3_meets_2⟩
theorem dX3_meets_5 : decode t_X3_meets.2.1 5 = .ok (.bipush (-9), 2) := by decide +kernel
theorem dX3_meets_7 : decode t_X3_meets.2.1 7 = .ok (.if_icmp .eq 7, 3) := by decide +kernel
theorem dX3_meets_10 : decode t_X3_meets.2.1 10 = .ok (.iconst 1, 1) := by decide +kernel
theorem dX3_meets_11 : decode t_X3_meets.2.1 11 = .ok (.goto 4, 3) := by decide +kernel
theorem dX3_meets_14 : decode t_X3_meets.2.1 14 = .ok (.iconst 0, 1) := by decide +kernel
theorem dX3_meets_15 : decode t_X3_meets.2.1 15 = .ok (.ireturn, 1) := by decide +kernel
theorem wd_1021 : Cond.code yX3_isWithin cX3_isWithin 3 (some .boolean) ∈ lw_gd := List.mem_filter.mpr ⟨List.mem_of_getElem? (i := 1021) (by decide +kernel), by decide +kernel⟩
theorem wd_1019 : Cond.instanceMethod yX3_isWithin ∈ lw_gd := List.mem_filter.mpr ⟨List.mem_of_getElem? (i := 1019) (by decide +kernel), by decide +kernel⟩
theorem wd_1020 : Cond.selects RX3 yX3_isWithin yX3_isWithin ∈ lw_gd := List.mem_filter.mpr ⟨List.mem_of_getElem? (i := 1020) (by decide +kernel), by decide +kernel⟩
theorem vX3_isWithin : wm_calV t_X3_isWithin 1 := ⟨⟨wd_1021, wd_83, by decide +kernel, by decide +kernel, by decide +kernel⟩, wd_1019, wd_1020⟩
theorem dX3_isWithin_0 : decode t_X3_isWithin.2.1 0 = .ok (.iconst 0, 1) := by decide +kernel
theorem dX3_isWithin_1 : decode t_X3_isWithin.2.1 1 = .ok (.istore_n 2, 1) := by decide +kernel
theorem dX3_isWithin_2 : decode t_X3_isWithin.2.1 2 = .ok (.iload_n 2, 1) := by decide +kernel
theorem dX3_isWithin_3 : decode t_X3_isWithin.2.1 3 = .ok (.bipush 64, 2) := by decide +kernel
theorem dX3_isWithin_5 : decode t_X3_isWithin.2.1 5 = .ok (.if_icmp .ge 33, 3) := by decide +kernel
theorem dX3_isWithin_8 : decode t_X3_isWithin.2.1 8 = .ok (.aload_n 0, 1) := by decide +kernel
theorem dX3_isWithin_9 : decode t_X3_isWithin.2.1 9 = .ok (.getfield 9, 3) := by decide +kernel
theorem gX3_isWithin_9 : wm_gf t_X3_isWithin 9 3 0 := ⟨_, _, _, 9, rfl, by decide, wd_199, dX3_isWithin_9⟩
theorem dX3_isWithin_12 : decode t_X3_isWithin.2.1 12 = .ok (.iload_n 2, 1) := by decide +kernel
theorem dX3_isWithin_13 : decode t_X3_isWithin.2.1 13 = .ok (.laload, 1) := by decide +kernel
theorem dX3_isWithin_14 : decode t_X3_isWithin.2.1 14 = .ok (.aload_n 1, 1) := by decide +kernel
theorem dX3_isWithin_15 : decode t_X3_isWithin.2.1 15 = .ok (.getfield 9, 3) := by decide +kernel
theorem gX3_isWithin_15 : wm_gf t_X3_isWithin 15 3 0 := ⟨_, _, _, 9, rfl, by decide, wd_199, dX3_isWithin_15⟩
theorem dX3_isWithin_18 : decode t_X3_isWithin.2.1 18 = .ok (.iload_n 2, 1) := by decide +kernel
theorem dX3_isWithin_19 : decode t_X3_isWithin.2.1 19 = .ok (.laload, 1) := by decide +kernel
theorem dX3_isWithin_20 : decode t_X3_isWithin.2.1 20 = .ok (.ldc2_w 40, 3) := by decide +kernel
theorem wd_629 : Cond.constantLong RX3 40 (-1) ∈ lw_gd := List.mem_filter.mpr ⟨List.mem_of_getElem? (i := 629) (by decide +kernel), by decide +kernel⟩
theorem kX3_isWithin_20 : Cond.constantLong t_X3_isWithin.1.cls 40 (-1) ∈ lw_gd := wd_629
theorem dX3_isWithin_23 : decode t_X3_isWithin.2.1 23 = .ok (.lxor, 1) := by decide +kernel
theorem dX3_isWithin_24 : decode t_X3_isWithin.2.1 24 = .ok (.land, 1) := by decide +kernel
theorem dX3_isWithin_25 : decode t_X3_isWithin.2.1 25 = .ok (.lconst 0, 1) := by decide +kernel
theorem dX3_isWithin_26 : decode t_X3_isWithin.2.1 26 = .ok (.lcmp, 1) := by decide +kernel
theorem dX3_isWithin_27 : decode t_X3_isWithin.2.1 27 = .ok (.ifCond .eq 5, 3) := by decide +kernel
theorem dX3_isWithin_30 : decode t_X3_isWithin.2.1 30 = .ok (.iconst 0, 1) := by decide +kernel
theorem dX3_isWithin_31 : decode t_X3_isWithin.2.1 31 = .ok (.ireturn, 1) := by decide +kernel
theorem dX3_isWithin_32 : decode t_X3_isWithin.2.1 32 = .ok (.iinc 2 1, 3) := by decide +kernel
theorem dX3_isWithin_35 : decode t_X3_isWithin.2.1 35 = .ok (.goto (-33), 3) := by decide +kernel
theorem dX3_isWithin_38 : decode t_X3_isWithin.2.1 38 = .ok (.iconst 1, 1) := by decide +kernel
theorem dX3_isWithin_39 : decode t_X3_isWithin.2.1 39 = .ok (.ireturn, 1) := by decide +kernel
theorem wd_823 : Cond.code yX3_leastWith cX3_leastWith 5 (some .int) ∈ lw_gd := List.mem_filter.mpr ⟨List.mem_of_getElem? (i := 823) (by decide +kernel), by decide +kernel⟩
theorem wd_821 : Cond.instanceMethod yX3_leastWith ∈ lw_gd := List.mem_filter.mpr ⟨List.mem_of_getElem? (i := 821) (by decide +kernel), by decide +kernel⟩
theorem wd_822 : Cond.selects RX3 yX3_leastWith yX3_leastWith ∈ lw_gd := List.mem_filter.mpr ⟨List.mem_of_getElem? (i := 822) (by decide +kernel), by decide +kernel⟩
theorem vX3_leastWith : wm_calV t_X3_leastWith 1 := ⟨⟨wd_823, wd_83, by decide +kernel, by decide +kernel, by decide +kernel⟩, wd_821, wd_822⟩
theorem dX3_leastWith_0 : decode t_X3_leastWith.2.1 0 = .ok (.iconst 0, 1) := by decide +kernel
theorem dX3_leastWith_1 : decode t_X3_leastWith.2.1 1 = .ok (.istore_n 2, 1) := by decide +kernel
theorem dX3_leastWith_2 : decode t_X3_leastWith.2.1 2 = .ok (.iload_n 2, 1) := by decide +kernel
theorem dX3_leastWith_3 : decode t_X3_leastWith.2.1 3 = .ok (.bipush 64, 2) := by decide +kernel
theorem dX3_leastWith_5 : decode t_X3_leastWith.2.1 5 = .ok (.if_icmp .ge 47, 3) := by decide +kernel
theorem dX3_leastWith_8 : decode t_X3_leastWith.2.1 8 = .ok (.aload_n 0, 1) := by decide +kernel
theorem dX3_leastWith_9 : decode t_X3_leastWith.2.1 9 = .ok (.getfield 9, 3) := by decide +kernel
theorem gX3_leastWith_9 : wm_gf t_X3_leastWith 9 3 0 := ⟨_, _, _, 9, rfl, by decide, wd_199, dX3_leastWith_9⟩
theorem dX3_leastWith_12 : decode t_X3_leastWith.2.1 12 = .ok (.iload_n 2, 1) := by decide +kernel
theorem dX3_leastWith_13 : decode t_X3_leastWith.2.1 13 = .ok (.laload, 1) := by decide +kernel
theorem dX3_leastWith_14 : decode t_X3_leastWith.2.1 14 = .ok (.aload_n 1, 1) := by decide +kernel
theorem dX3_leastWith_15 : decode t_X3_leastWith.2.1 15 = .ok (.getfield 9, 3) := by decide +kernel
theorem gX3_leastWith_15 : wm_gf t_X3_leastWith 15 3 0 := ⟨_, _, _, 9, rfl, by decide, wd_199, dX3_leastWith_15⟩
theorem dX3_leastWith_18 : decode t_X3_leastWith.2.1 18 = .ok (.iload_n 2, 1) := by decide +kernel
theorem dX3_leastWith_19 : decode t_X3_leastWith.2.1 19 = .ok (.laload, 1) := by decide +kernel
theorem dX3_leastWith_20 : decode t_X3_leastWith.2.1 20 = .ok (.land, 1) := by decide +kernel
theorem dX3_leastWith_21 : decode t_X3_leastWith.2.1 21 = .ok (.lstore_n 3, 1) := by decide +kernel
theorem dX3_leastWith_22 : decode t_X3_leastWith.2.1 22 = .ok (.lload_n 3, 1) := by decide +kernel
theorem dX3_leastWith_23 : decode t_X3_leastWith.2.1 23 = .ok (.lconst 0, 1) := by decide +kernel
theorem dX3_leastWith_24 : decode t_X3_leastWith.2.1 24 = .ok (.lcmp, 1) := by decide +kernel
theorem dX3_leastWith_25 : decode t_X3_leastWith.2.1 25 = .ok (.ifCond .eq 21, 3) := by decide +kernel
theorem dX3_leastWith_28 : decode t_X3_leastWith.2.1 28 = .ok (.bipush 64, 2) := by decide +kernel
theorem dX3_leastWith_30 : decode t_X3_leastWith.2.1 30 = .ok (.iload_n 2, 1) := by decide +kernel
theorem dX3_leastWith_31 : decode t_X3_leastWith.2.1 31 = .ok (.imul, 1) := by decide +kernel
theorem dX3_leastWith_32 : decode t_X3_leastWith.2.1 32 = .ok (.lload_n 3, 1) := by decide +kernel
theorem dX3_leastWith_33 : decode t_X3_leastWith.2.1 33 = .ok (.lconst 1, 1) := by decide +kernel
theorem dX3_leastWith_34 : decode t_X3_leastWith.2.1 34 = .ok (.lsub, 1) := by decide +kernel
theorem dX3_leastWith_35 : decode t_X3_leastWith.2.1 35 = .ok (.lload_n 3, 1) := by decide +kernel
theorem dX3_leastWith_36 : decode t_X3_leastWith.2.1 36 = .ok (.ldc2_w 40, 3) := by decide +kernel
theorem kX3_leastWith_36 : Cond.constantLong t_X3_leastWith.1.cls 40 (-1) ∈ lw_gd := wd_629
theorem dX3_leastWith_39 : decode t_X3_leastWith.2.1 39 = .ok (.lxor, 1) := by decide +kernel
theorem dX3_leastWith_40 : decode t_X3_leastWith.2.1 40 = .ok (.land, 1) := by decide +kernel
theorem dX3_leastWith_41 : decode t_X3_leastWith.2.1 41 = .ok (.invokestatic 30, 3) := by decide +kernel
theorem iX3_leastWith_41 : wm_is t_X3_leastWith t_J13_bitCount_95d88 41 := ⟨30, wd_824, dX3_leastWith_41⟩
theorem dX3_leastWith_44 : decode t_X3_leastWith.2.1 44 = .ok (.iadd, 1) := by decide +kernel
theorem dX3_leastWith_45 : decode t_X3_leastWith.2.1 45 = .ok (.ireturn, 1) := by decide +kernel
theorem dX3_leastWith_46 : decode t_X3_leastWith.2.1 46 = .ok (.iinc 2 1, 3) := by decide +kernel
theorem dX3_leastWith_49 : decode t_X3_leastWith.2.1 49 = .ok (.goto (-47), 3) := by decide +kernel
theorem dX3_leastWith_52 : decode t_X3_leastWith.2.1 52 = .ok (.bipush (-9), 2) := by decide +kernel
theorem dX3_leastWith_54 : decode t_X3_leastWith.2.1 54 = .ok (.ireturn, 1) := by decide +kernel
theorem wd_806 : Cond.code yX3_meet cX3_meet 3 (none) ∈ lw_gd := List.mem_filter.mpr ⟨List.mem_of_getElem? (i := 806) (by decide +kernel), by decide +kernel⟩
theorem wd_804 : Cond.instanceMethod yX3_meet ∈ lw_gd := List.mem_filter.mpr ⟨List.mem_of_getElem? (i := 804) (by decide +kernel), by decide +kernel⟩
theorem wd_805 : Cond.selects RX3 yX3_meet yX3_meet ∈ lw_gd := List.mem_filter.mpr ⟨List.mem_of_getElem? (i := 805) (by decide +kernel), by decide +kernel⟩
theorem vX3_meet : wm_calV t_X3_meet 1 := ⟨⟨wd_806, wd_83, by decide +kernel, by decide +kernel, by decide +kernel⟩, wd_804, wd_805⟩
theorem dX3_meet_0 : decode t_X3_meet.2.1 0 = .ok (.iconst 0, 1) := by decide +kernel
theorem dX3_meet_1 : decode t_X3_meet.2.1 1 = .ok (.istore_n 2, 1) := by decide +kernel
theorem dX3_meet_2 : decode t_X3_meet.2.1 2 = .ok (.iload_n 2, 1) := by decide +kernel
theorem dX3_meet_3 : decode t_X3_meet.2.1 3 = .ok (.bipush 64, 2) := by decide +kernel
theorem dX3_meet_5 : decode t_X3_meet.2.1 5 = .ok (.if_icmp .ge 24, 3) := by decide +kernel
theorem dX3_meet_8 : decode t_X3_meet.2.1 8 = .ok (.aload_n 0, 1) := by decide +kernel
theorem dX3_meet_9 : decode t_X3_meet.2.1 9 = .ok (.getfield 9, 3) := by decide +kernel
theorem gX3_meet_9 : wm_gf t_X3_meet 9 3 0 := ⟨_, _, _, 9, rfl, by decide, wd_199, dX3_meet_9⟩
theorem dX3_meet_12 : decode t_X3_meet.2.1 12 = .ok (.iload_n 2, 1) := by decide +kernel
theorem dX3_meet_13 : decode t_X3_meet.2.1 13 = .ok (.dup2, 1) := by decide +kernel
theorem dX3_meet_14 : decode t_X3_meet.2.1 14 = .ok (.laload, 1) := by decide +kernel
theorem dX3_meet_15 : decode t_X3_meet.2.1 15 = .ok (.aload_n 1, 1) := by decide +kernel
theorem dX3_meet_16 : decode t_X3_meet.2.1 16 = .ok (.getfield 9, 3) := by decide +kernel
theorem gX3_meet_16 : wm_gf t_X3_meet 16 3 0 := ⟨_, _, _, 9, rfl, by decide, wd_199, dX3_meet_16⟩
theorem dX3_meet_19 : decode t_X3_meet.2.1 19 = .ok (.iload_n 2, 1) := by decide +kernel
theorem dX3_meet_20 : decode t_X3_meet.2.1 20 = .ok (.laload, 1) := by decide +kernel
theorem dX3_meet_21 : decode t_X3_meet.2.1 21 = .ok (.land, 1) := by decide +kernel
theorem dX3_meet_22 : decode t_X3_meet.2.1 22 = .ok (.lastore, 1) := by decide +kernel
theorem dX3_meet_23 : decode t_X3_meet.2.1 23 = .ok (.iinc 2 1, 3) := by decide +kernel
theorem dX3_meet_26 : decode t_X3_meet.2.1 26 = .ok (.goto (-24), 3) := by decide +kernel
theorem dX3_meet_29 : decode t_X3_meet.2.1 29 = .ok (.return_, 1) := by decide +kernel
theorem wd_923 : Cond.code yX3_meetMoved cX3_meetMoved 5 (none) ∈ lw_gd := List.mem_filter.mpr ⟨List.mem_of_getElem? (i := 923) (by decide +kernel), by decide +kernel⟩
theorem wd_921 : Cond.instanceMethod yX3_meetMoved ∈ lw_gd := List.mem_filter.mpr ⟨List.mem_of_getElem? (i := 921) (by decide +kernel), by decide +kernel⟩
theorem wd_922 : Cond.selects RX3 yX3_meetMoved yX3_meetMoved ∈ lw_gd := List.mem_filter.mpr ⟨List.mem_of_getElem? (i := 922) (by decide +kernel), by decide +kernel⟩
theorem vX3_meetMoved : wm_calV t_X3_meetMoved 3 := ⟨⟨wd_923, wd_83, by decide +kernel, by decide +kernel, by decide +kernel⟩, wd_921, wd_922⟩
theorem dX3_meetMoved_0 : decode t_X3_meetMoved.2.1 0 = .ok (.iconst 0, 1) := by decide +kernel
theorem dX3_meetMoved_1 : decode t_X3_meetMoved.2.1 1 = .ok (.istore 4, 2) := by decide +kernel
theorem dX3_meetMoved_3 : decode t_X3_meetMoved.2.1 3 = .ok (.iload 4, 2) := by decide +kernel
theorem dX3_meetMoved_5 : decode t_X3_meetMoved.2.1 5 = .ok (.bipush 64, 2) := by decide +kernel
theorem dX3_meetMoved_7 : decode t_X3_meetMoved.2.1 7 = .ok (.if_icmp .ge 27, 3) := by decide +kernel
theorem dX3_meetMoved_10 : decode t_X3_meetMoved.2.1 10 = .ok (.aload_n 0, 1) := by decide +kernel
theorem dX3_meetMoved_11 : decode t_X3_meetMoved.2.1 11 = .ok (.getfield 9, 3) := by decide +kernel
theorem gX3_meetMoved_11 : wm_gf t_X3_meetMoved 11 3 0 := ⟨_, _, _, 9, rfl, by decide, wd_199, dX3_meetMoved_11⟩
theorem dX3_meetMoved_14 : decode t_X3_meetMoved.2.1 14 = .ok (.iload 4, 2) := by decide +kernel
theorem dX3_meetMoved_16 : decode t_X3_meetMoved.2.1 16 = .ok (.dup2, 1) := by decide +kernel
theorem dX3_meetMoved_17 : decode t_X3_meetMoved.2.1 17 = .ok (.laload, 1) := by decide +kernel
theorem dX3_meetMoved_18 : decode t_X3_meetMoved.2.1 18 = .ok (.aload_n 1, 1) := by decide +kernel
theorem dX3_meetMoved_19 : decode t_X3_meetMoved.2.1 19 = .ok (.iload 4, 2) := by decide +kernel
theorem dX3_meetMoved_21 : decode t_X3_meetMoved.2.1 21 = .ok (.iload_n 2, 1) := by decide +kernel
theorem dX3_meetMoved_22 : decode t_X3_meetMoved.2.1 22 = .ok (.iload_n 3, 1) := by decide +kernel
theorem dX3_meetMoved_23 : decode t_X3_meetMoved.2.1 23 = .ok (.invokevirtual 42, 3) := by decide +kernel
theorem wd_841 : Cond.methodLink RX3 42 yX3_moved ∈ lw_gd := List.mem_filter.mpr ⟨List.mem_of_getElem? (i := 841) (by decide +kernel), by decide +kernel⟩
theorem iX3_meetMoved_23 : wm_iv t_X3_meetMoved t_X3_moved 23 := ⟨42, wd_841, dX3_meetMoved_23⟩
theorem dX3_meetMoved_26 : decode t_X3_meetMoved.2.1 26 = .ok (.land, 1) := by decide +kernel
theorem dX3_meetMoved_27 : decode t_X3_meetMoved.2.1 27 = .ok (.lastore, 1) := by decide +kernel
theorem dX3_meetMoved_28 : decode t_X3_meetMoved.2.1 28 = .ok (.iinc 4 1, 3) := by decide +kernel
theorem dX3_meetMoved_31 : decode t_X3_meetMoved.2.1 31 = .ok (.goto (-28), 3) := by decide +kernel
theorem dX3_meetMoved_34 : decode t_X3_meetMoved.2.1 34 = .ok (.return_, 1) := by decide +kernel
theorem wd_840 : Cond.code yX3_joinMoved cX3_joinMoved 5 (none) ∈ lw_gd := List.mem_filter.mpr ⟨List.mem_of_getElem? (i := 840) (by decide +kernel), by decide +kernel⟩
theorem wd_838 : Cond.instanceMethod yX3_joinMoved ∈ lw_gd := List.mem_filter.mpr ⟨List.mem_of_getElem? (i := 838) (by decide +kernel), by decide +kernel⟩
theorem wd_839 : Cond.selects RX3 yX3_joinMoved yX3_joinMoved ∈ lw_gd := List.mem_filter.mpr ⟨List.mem_of_getElem? (i := 839) (by decide +kernel), by decide +kernel⟩
theorem vX3_joinMoved : wm_calV t_X3_joinMoved 3 := ⟨⟨wd_840, wd_83, by decide +kernel, by decide +kernel, by decide +kernel⟩, wd_838, wd_839⟩
theorem dX3_joinMoved_0 : decode t_X3_joinMoved.2.1 0 = .ok (.iconst 0, 1) := by decide +kernel
theorem dX3_joinMoved_1 : decode t_X3_joinMoved.2.1 1 = .ok (.istore 4, 2) := by decide +kernel
theorem dX3_joinMoved_3 : decode t_X3_joinMoved.2.1 3 = .ok (.iload 4, 2) := by decide +kernel
theorem dX3_joinMoved_5 : decode t_X3_joinMoved.2.1 5 = .ok (.bipush 64, 2) := by decide +kernel
theorem dX3_joinMoved_7 : decode t_X3_joinMoved.2.1 7 = .ok (.if_icmp .ge 27, 3) := by decide +kernel
theorem dX3_joinMoved_10 : decode t_X3_joinMoved.2.1 10 = .ok (.aload_n 0, 1) := by decide +kernel
theorem dX3_joinMoved_11 : decode t_X3_joinMoved.2.1 11 = .ok (.getfield 9, 3) := by decide +kernel
theorem gX3_joinMoved_11 : wm_gf t_X3_joinMoved 11 3 0 := ⟨_, _, _, 9, rfl, by decide, wd_199, dX3_joinMoved_11⟩
theorem dX3_joinMoved_14 : decode t_X3_joinMoved.2.1 14 = .ok (.iload 4, 2) := by decide +kernel
theorem dX3_joinMoved_16 : decode t_X3_joinMoved.2.1 16 = .ok (.dup2, 1) := by decide +kernel
theorem dX3_joinMoved_17 : decode t_X3_joinMoved.2.1 17 = .ok (.laload, 1) := by decide +kernel
theorem dX3_joinMoved_18 : decode t_X3_joinMoved.2.1 18 = .ok (.aload_n 1, 1) := by decide +kernel
theorem dX3_joinMoved_19 : decode t_X3_joinMoved.2.1 19 = .ok (.iload 4, 2) := by decide +kernel
theorem dX3_joinMoved_21 : decode t_X3_joinMoved.2.1 21 = .ok (.iload_n 2, 1) := by decide +kernel
theorem dX3_joinMoved_22 : decode t_X3_joinMoved.2.1 22 = .ok (.iload_n 3, 1) := by decide +kernel
theorem dX3_joinMoved_23 : decode t_X3_joinMoved.2.1 23 = .ok (.invokevirtual 42, 3) := by decide +kernel
theorem iX3_joinMoved_23 : wm_iv t_X3_joinMoved t_X3_moved 23 := ⟨42, wd_841, dX3_joinMoved_23⟩
theorem dX3_joinMoved_26 : decode t_X3_joinMoved.2.1 26 = .ok (.lor, 1) := by decide +kernel
theorem dX3_joinMoved_27 : decode t_X3_joinMoved.2.1 27 = .ok (.lastore, 1) := by decide +kernel
theorem dX3_joinMoved_28 : decode t_X3_joinMoved.2.1 28 = .ok (.iinc 4 1, 3) := by decide +kernel
theorem dX3_joinMoved_31 : decode t_X3_joinMoved.2.1 31 = .ok (.goto (-28), 3) := by decide +kernel
theorem dX3_joinMoved_34 : decode t_X3_joinMoved.2.1 34 = .ok (.return_, 1) := by decide +kernel
theorem wd_1038 : Cond.code yX3_meetsMoved cX3_meetsMoved 5 (some .boolean) ∈ lw_gd := List.mem_filter.mpr ⟨List.mem_of_getElem? (i := 1038) (by decide +kernel), by decide +kernel⟩
theorem wd_1036 : Cond.instanceMethod yX3_meetsMoved ∈ lw_gd := List.mem_filter.mpr ⟨List.mem_of_getElem? (i := 1036) (by decide +kernel), by decide +kernel⟩
theorem wd_1037 : Cond.selects RX3 yX3_meetsMoved yX3_meetsMoved ∈ lw_gd := List.mem_filter.mpr ⟨List.mem_of_getElem? (i := 1037) (by decide +kernel), by decide +kernel⟩
theorem vX3_meetsMoved : wm_calV t_X3_meetsMoved 3 := ⟨⟨wd_1038, wd_83, by decide +kernel, by decide +kernel, by decide +kernel⟩, wd_1036, wd_1037⟩
theorem dX3_meetsMoved_0 : decode t_X3_meetsMoved.2.1 0 = .ok (.iconst 0, 1) := by decide +kernel
theorem dX3_meetsMoved_1 : decode t_X3_meetsMoved.2.1 1 = .ok (.istore 4, 2) := by decide +kernel
theorem dX3_meetsMoved_3 : decode t_X3_meetsMoved.2.1 3 = .ok (.iload 4, 2) := by decide +kernel
theorem dX3_meetsMoved_5 : decode t_X3_meetsMoved.2.1 5 = .ok (.bipush 64, 2) := by decide +kernel
theorem dX3_meetsMoved_7 : decode t_X3_meetsMoved.2.1 7 = .ok (.if_icmp .ge 32, 3) := by decide +kernel
theorem dX3_meetsMoved_10 : decode t_X3_meetsMoved.2.1 10 = .ok (.aload_n 0, 1) := by decide +kernel
theorem dX3_meetsMoved_11 : decode t_X3_meetsMoved.2.1 11 = .ok (.getfield 9, 3) := by decide +kernel
theorem gX3_meetsMoved_11 : wm_gf t_X3_meetsMoved 11 3 0 := ⟨_, _, _, 9, rfl, by decide, wd_199, dX3_meetsMoved_11⟩
theorem dX3_meetsMoved_14 : decode t_X3_meetsMoved.2.1 14 = .ok (.iload 4, 2) := by decide +kernel
theorem dX3_meetsMoved_16 : decode t_X3_meetsMoved.2.1 16 = .ok (.laload, 1) := by decide +kernel
theorem dX3_meetsMoved_17 : decode t_X3_meetsMoved.2.1 17 = .ok (.aload_n 1, 1) := by decide +kernel
theorem dX3_meetsMoved_18 : decode t_X3_meetsMoved.2.1 18 = .ok (.iload 4, 2) := by decide +kernel
theorem dX3_meetsMoved_20 : decode t_X3_meetsMoved.2.1 20 = .ok (.iload_n 2, 1) := by decide +kernel
theorem dX3_meetsMoved_21 : decode t_X3_meetsMoved.2.1 21 = .ok (.iload_n 3, 1) := by decide +kernel
theorem dX3_meetsMoved_22 : decode t_X3_meetsMoved.2.1 22 = .ok (.invokevirtual 42, 3) := by decide +kernel
theorem iX3_meetsMoved_22 : wm_iv t_X3_meetsMoved t_X3_moved 22 := ⟨42, wd_841, dX3_meetsMoved_22⟩
theorem dX3_meetsMoved_25 : decode t_X3_meetsMoved.2.1 25 = .ok (.land, 1) := by decide +kernel
theorem dX3_meetsMoved_26 : decode t_X3_meetsMoved.2.1 26 = .ok (.lconst 0, 1) := by decide +kernel
theorem dX3_meetsMoved_27 : decode t_X3_meetsMoved.2.1 27 = .ok (.lcmp, 1) := by decide +kernel
theorem dX3_meetsMoved_28 : decode t_X3_meetsMoved.2.1 28 = .ok (.ifCond .eq 5, 3) := by decide +kernel
theorem dX3_meetsMoved_31 : decode t_X3_meetsMoved.2.1 31 = .ok (.iconst 1, 1) := by decide +kernel
theorem dX3_meetsMoved_32 : decode t_X3_meetsMoved.2.1 32 = .ok (.ireturn, 1) := by decide +kernel
theorem dX3_meetsMoved_33 : decode t_X3_meetsMoved.2.1 33 = .ok (.iinc 4 1, 3) := by decide +kernel
theorem dX3_meetsMoved_36 : decode t_X3_meetsMoved.2.1 36 = .ok (.goto (-33), 3) := by decide +kernel
theorem dX3_meetsMoved_39 : decode t_X3_meetsMoved.2.1 39 = .ok (.iconst 0, 1) := by decide +kernel
theorem dX3_meetsMoved_40 : decode t_X3_meetsMoved.2.1 40 = .ok (.ireturn, 1) := by decide +kernel
theorem wd_625 : Cond.code yX3_joinProduct cX3_joinProduct 7 (none) ∈ lw_gd := List.mem_filter.mpr ⟨List.mem_of_getElem? (i := 625) (by decide +kernel), by decide +kernel⟩
theorem wd_623 : Cond.instanceMethod yX3_joinProduct ∈ lw_gd := List.mem_filter.mpr ⟨List.mem_of_getElem? (i := 623) (by decide +kernel), by decide +kernel⟩
theorem wd_624 : Cond.selects RX3 yX3_joinProduct yX3_joinProduct ∈ lw_gd := List.mem_filter.mpr ⟨List.mem_of_getElem? (i := 624) (by decide +kernel), by decide +kernel⟩
theorem vX3_joinProduct : wm_calV t_X3_joinProduct 1 := ⟨⟨wd_625, wd_83, by decide +kernel, by decide +kernel, by decide +kernel⟩, wd_623, wd_624⟩
theorem dX3_joinProduct_0 : decode t_X3_joinProduct.2.1 0 = .ok (.aload_n 1, 1) := by decide +kernel
theorem dX3_joinProduct_1 : decode t_X3_joinProduct.2.1 1 = .ok (.iconst 0, 1) := by decide +kernel
theorem dX3_joinProduct_2 : decode t_X3_joinProduct.2.1 2 = .ok (.invokestatic 46, 3) := by decide +kernel
theorem wd_626 : Cond.methodLink RX3 46 yX3_pattern ∈ lw_gd := List.mem_filter.mpr ⟨List.mem_of_getElem? (i := 626) (by decide +kernel), by decide +kernel⟩
theorem iX3_joinProduct_2 : wm_is t_X3_joinProduct t_X3_pattern 2 := ⟨46, wd_626, dX3_joinProduct_2⟩
theorem dX3_joinProduct_5 : decode t_X3_joinProduct.2.1 5 = .ok (.lstore_n 2, 1) := by decide +kernel
theorem dX3_joinProduct_6 : decode t_X3_joinProduct.2.1 6 = .ok (.aload_n 1, 1) := by decide +kernel
theorem dX3_joinProduct_7 : decode t_X3_joinProduct.2.1 7 = .ok (.iconst 3, 1) := by decide +kernel
theorem dX3_joinProduct_8 : decode t_X3_joinProduct.2.1 8 = .ok (.invokestatic 46, 3) := by decide +kernel
theorem iX3_joinProduct_8 : wm_is t_X3_joinProduct t_X3_pattern 8 := ⟨46, wd_626, dX3_joinProduct_8⟩
theorem dX3_joinProduct_11 : decode t_X3_joinProduct.2.1 11 = .ok (.lstore 4, 2) := by decide +kernel
theorem dX3_joinProduct_13 : decode t_X3_joinProduct.2.1 13 = .ok (.iconst 0, 1) := by decide +kernel
theorem dX3_joinProduct_14 : decode t_X3_joinProduct.2.1 14 = .ok (.istore 6, 2) := by decide +kernel
theorem dX3_joinProduct_16 : decode t_X3_joinProduct.2.1 16 = .ok (.iload 6, 2) := by decide +kernel
theorem dX3_joinProduct_18 : decode t_X3_joinProduct.2.1 18 = .ok (.bipush 64, 2) := by decide +kernel
theorem dX3_joinProduct_20 : decode t_X3_joinProduct.2.1 20 = .ok (.if_icmp .ge 32, 3) := by decide +kernel
theorem dX3_joinProduct_23 : decode t_X3_joinProduct.2.1 23 = .ok (.lload 4, 2) := by decide +kernel
theorem dX3_joinProduct_25 : decode t_X3_joinProduct.2.1 25 = .ok (.iload 6, 2) := by decide +kernel
theorem dX3_joinProduct_27 : decode t_X3_joinProduct.2.1 27 = .ok (.lushr, 1) := by decide +kernel
theorem dX3_joinProduct_28 : decode t_X3_joinProduct.2.1 28 = .ok (.lconst 1, 1) := by decide +kernel
theorem dX3_joinProduct_29 : decode t_X3_joinProduct.2.1 29 = .ok (.land, 1) := by decide +kernel
theorem dX3_joinProduct_30 : decode t_X3_joinProduct.2.1 30 = .ok (.lconst 1, 1) := by decide +kernel
theorem dX3_joinProduct_31 : decode t_X3_joinProduct.2.1 31 = .ok (.lcmp, 1) := by decide +kernel
theorem dX3_joinProduct_32 : decode t_X3_joinProduct.2.1 32 = .ok (.ifCond .ne 14, 3) := by decide +kernel
theorem dX3_joinProduct_35 : decode t_X3_joinProduct.2.1 35 = .ok (.aload_n 0, 1) := by decide +kernel
theorem dX3_joinProduct_36 : decode t_X3_joinProduct.2.1 36 = .ok (.getfield 9, 3) := by decide +kernel
theorem gX3_joinProduct_36 : wm_gf t_X3_joinProduct 36 3 0 := ⟨_, _, _, 9, rfl, by decide, wd_199, dX3_joinProduct_36⟩
theorem dX3_joinProduct_39 : decode t_X3_joinProduct.2.1 39 = .ok (.iload 6, 2) := by decide +kernel
theorem dX3_joinProduct_41 : decode t_X3_joinProduct.2.1 41 = .ok (.dup2, 1) := by decide +kernel
theorem dX3_joinProduct_42 : decode t_X3_joinProduct.2.1 42 = .ok (.laload, 1) := by decide +kernel
theorem dX3_joinProduct_43 : decode t_X3_joinProduct.2.1 43 = .ok (.lload_n 2, 1) := by decide +kernel
theorem dX3_joinProduct_44 : decode t_X3_joinProduct.2.1 44 = .ok (.lor, 1) := by decide +kernel
theorem dX3_joinProduct_45 : decode t_X3_joinProduct.2.1 45 = .ok (.lastore, 1) := by decide +kernel
theorem dX3_joinProduct_46 : decode t_X3_joinProduct.2.1 46 = .ok (.iinc 6 1, 3) := by decide +kernel
theorem dX3_joinProduct_49 : decode t_X3_joinProduct.2.1 49 = .ok (.goto (-33), 3) := by decide +kernel
theorem dX3_joinProduct_52 : decode t_X3_joinProduct.2.1 52 = .ok (.return_, 1) := by decide +kernel
theorem wd_628 : Cond.code yX3_pattern cX3_pattern 8 (some .long) ∈ lw_gd := List.mem_filter.mpr ⟨List.mem_of_getElem? (i := 628) (by decide +kernel), by decide +kernel⟩
theorem wd_627 : Cond.static yX3_pattern ∈ lw_gd := List.mem_filter.mpr ⟨List.mem_of_getElem? (i := 627) (by decide +kernel), by decide +kernel⟩
theorem vX3_pattern : wm_calS t_X3_pattern 2 := ⟨⟨wd_628, wd_83, by decide +kernel, by decide +kernel, by decide +kernel⟩, wd_627⟩
theorem dX3_pattern_0 : decode t_X3_pattern.2.1 0 = .ok (.ldc2_w 40, 3) := by decide +kernel
theorem kX3_pattern_0 : Cond.constantLong t_X3_pattern.1.cls 40 (-1) ∈ lw_gd := wd_629
theorem dX3_pattern_3 : decode t_X3_pattern.2.1 3 = .ok (.lstore_n 2, 1) := by decide +kernel
theorem dX3_pattern_4 : decode t_X3_pattern.2.1 4 = .ok (.iconst 0, 1) := by decide +kernel
theorem dX3_pattern_5 : decode t_X3_pattern.2.1 5 = .ok (.istore 4, 2) := by decide +kernel
theorem dX3_pattern_7 : decode t_X3_pattern.2.1 7 = .ok (.iload 4, 2) := by decide +kernel
theorem dX3_pattern_9 : decode t_X3_pattern.2.1 9 = .ok (.iconst 3, 1) := by decide +kernel
theorem dX3_pattern_10 : decode t_X3_pattern.2.1 10 = .ok (.if_icmp .ge 75, 3) := by decide +kernel
theorem dX3_pattern_13 : decode t_X3_pattern.2.1 13 = .ok (.iload_n 1, 1) := by decide +kernel
theorem dX3_pattern_14 : decode t_X3_pattern.2.1 14 = .ok (.iload 4, 2) := by decide +kernel
theorem dX3_pattern_16 : decode t_X3_pattern.2.1 16 = .ok (.iadd, 1) := by decide +kernel
theorem dX3_pattern_17 : decode t_X3_pattern.2.1 17 = .ok (.aload_n 0, 1) := by decide +kernel
theorem dX3_pattern_18 : decode t_X3_pattern.2.1 18 = .ok (.arraylength, 1) := by decide +kernel
theorem dX3_pattern_19 : decode t_X3_pattern.2.1 19 = .ok (.if_icmp .ge 66, 3) := by decide +kernel
theorem dX3_pattern_22 : decode t_X3_pattern.2.1 22 = .ok (.lconst 0, 1) := by decide +kernel
theorem dX3_pattern_23 : decode t_X3_pattern.2.1 23 = .ok (.lstore 5, 2) := by decide +kernel
theorem dX3_pattern_25 : decode t_X3_pattern.2.1 25 = .ok (.iconst 0, 1) := by decide +kernel
theorem dX3_pattern_26 : decode t_X3_pattern.2.1 26 = .ok (.istore 7, 2) := by decide +kernel
theorem dX3_pattern_28 : decode t_X3_pattern.2.1 28 = .ok (.iload 7, 2) := by decide +kernel
theorem dX3_pattern_30 : decode t_X3_pattern.2.1 30 = .ok (.iconst 4, 1) := by decide +kernel
theorem dX3_pattern_31 : decode t_X3_pattern.2.1 31 = .ok (.if_icmp .ge 43, 3) := by decide +kernel
theorem dX3_pattern_34 : decode t_X3_pattern.2.1 34 = .ok (.aload_n 0, 1) := by decide +kernel
theorem dX3_pattern_35 : decode t_X3_pattern.2.1 35 = .ok (.iload_n 1, 1) := by decide +kernel
theorem dX3_pattern_36 : decode t_X3_pattern.2.1 36 = .ok (.iload 4, 2) := by decide +kernel
theorem dX3_pattern_38 : decode t_X3_pattern.2.1 38 = .ok (.iadd, 1) := by decide +kernel
theorem dX3_pattern_39 : decode t_X3_pattern.2.1 39 = .ok (.iaload, 1) := by decide +kernel
theorem dX3_pattern_40 : decode t_X3_pattern.2.1 40 = .ok (.iload 7, 2) := by decide +kernel
theorem dX3_pattern_42 : decode t_X3_pattern.2.1 42 = .ok (.ishr, 1) := by decide +kernel
theorem dX3_pattern_43 : decode t_X3_pattern.2.1 43 = .ok (.iconst 1, 1) := by decide +kernel
theorem dX3_pattern_44 : decode t_X3_pattern.2.1 44 = .ok (.iand, 1) := by decide +kernel
theorem dX3_pattern_45 : decode t_X3_pattern.2.1 45 = .ok (.iconst 1, 1) := by decide +kernel
theorem dX3_pattern_46 : decode t_X3_pattern.2.1 46 = .ok (.if_icmp .ne 22, 3) := by decide +kernel
theorem dX3_pattern_49 : decode t_X3_pattern.2.1 49 = .ok (.lload 5, 2) := by decide +kernel
theorem dX3_pattern_51 : decode t_X3_pattern.2.1 51 = .ok (.getstatic 50, 3) := by decide +kernel
theorem wd_630 : Cond.fieldLink RX3 50 "TurnedStones$StateSet" "FIRST" "[J" ∈ lw_gd := List.mem_filter.mpr ⟨List.mem_of_getElem? (i := 630) (by decide +kernel), by decide +kernel⟩
theorem gX3_pattern_51 : wm_gs t_X3_pattern 51 := ⟨50, wd_630, dX3_pattern_51⟩
theorem dX3_pattern_54 : decode t_X3_pattern.2.1 54 = .ok (.iload 4, 2) := by decide +kernel
theorem dX3_pattern_56 : decode t_X3_pattern.2.1 56 = .ok (.laload, 1) := by decide +kernel
theorem dX3_pattern_57 : decode t_X3_pattern.2.1 57 = .ok (.iload 7, 2) := by decide +kernel
theorem dX3_pattern_59 : decode t_X3_pattern.2.1 59 = .ok (.iconst 2, 1) := by decide +kernel
theorem dX3_pattern_60 : decode t_X3_pattern.2.1 60 = .ok (.iload 4, 2) := by decide +kernel
theorem dX3_pattern_62 : decode t_X3_pattern.2.1 62 = .ok (.imul, 1) := by decide +kernel
theorem dX3_pattern_63 : decode t_X3_pattern.2.1 63 = .ok (.ishl, 1) := by decide +kernel
theorem dX3_pattern_64 : decode t_X3_pattern.2.1 64 = .ok (.lshl, 1) := by decide +kernel
theorem dX3_pattern_65 : decode t_X3_pattern.2.1 65 = .ok (.lor, 1) := by decide +kernel
theorem dX3_pattern_66 : decode t_X3_pattern.2.1 66 = .ok (.lstore 5, 2) := by decide +kernel
theorem dX3_pattern_68 : decode t_X3_pattern.2.1 68 = .ok (.iinc 7 1, 3) := by decide +kernel
theorem dX3_pattern_71 : decode t_X3_pattern.2.1 71 = .ok (.goto (-43), 3) := by decide +kernel
theorem dX3_pattern_74 : decode t_X3_pattern.2.1 74 = .ok (.lload_n 2, 1) := by decide +kernel
theorem dX3_pattern_75 : decode t_X3_pattern.2.1 75 = .ok (.lload 5, 2) := by decide +kernel
theorem dX3_pattern_77 : decode t_X3_pattern.2.1 77 = .ok (.land, 1) := by decide +kernel
theorem dX3_pattern_78 : decode t_X3_pattern.2.1 78 = .ok (.lstore_n 2, 1) := by decide +kernel
theorem dX3_pattern_79 : decode t_X3_pattern.2.1 79 = .ok (.iinc 4 1, 3) := by decide +kernel
theorem dX3_pattern_82 : decode t_X3_pattern.2.1 82 = .ok (.goto (-75), 3) := by decide +kernel
theorem dX3_pattern_85 : decode t_X3_pattern.2.1 85 = .ok (.lload_n 2, 1) := by decide +kernel
theorem dX3_pattern_86 : decode t_X3_pattern.2.1 86 = .ok (.lreturn, 1) := by decide +kernel
theorem wd_844 : Cond.code yX3_moved cX3_moved 9 (some .long) ∈ lw_gd := List.mem_filter.mpr ⟨List.mem_of_getElem? (i := 844) (by decide +kernel), by decide +kernel⟩
theorem wd_843 : Cond.instanceMethod yX3_moved ∈ lw_gd := List.mem_filter.mpr ⟨List.mem_of_getElem? (i := 843) (by decide +kernel), by decide +kernel⟩
theorem wd_22 : Cond.selects RX3 yX3_moved yX3_moved ∈ lw_gd := List.mem_filter.mpr ⟨List.mem_of_getElem? (i := 22) (by decide +kernel), by decide +kernel⟩
theorem vX3_moved : wm_calV t_X3_moved 3 := ⟨⟨wd_844, wd_83, by decide +kernel, by decide +kernel, by decide +kernel⟩, wd_843, wd_22⟩
theorem dX3_moved_0 : decode t_X3_moved.2.1 0 = .ok (.iload_n 2, 1) := by decide +kernel
theorem dX3_moved_1 : decode t_X3_moved.2.1 1 = .ok (.iconst 3, 1) := by decide +kernel
theorem dX3_moved_2 : decode t_X3_moved.2.1 2 = .ok (.if_icmp .lt 42, 3) := by decide +kernel
theorem dX3_moved_5 : decode t_X3_moved.2.1 5 = .ok (.iconst 2, 1) := by decide +kernel
theorem dX3_moved_6 : decode t_X3_moved.2.1 6 = .ok (.iload_n 2, 1) := by decide +kernel
theorem dX3_moved_7 : decode t_X3_moved.2.1 7 = .ok (.iconst 3, 1) := by decide +kernel
theorem dX3_moved_8 : decode t_X3_moved.2.1 8 = .ok (.isub, 1) := by decide +kernel
theorem dX3_moved_9 : decode t_X3_moved.2.1 9 = .ok (.imul, 1) := by decide +kernel
theorem dX3_moved_10 : decode t_X3_moved.2.1 10 = .ok (.istore 4, 2) := by decide +kernel
theorem dX3_moved_12 : decode t_X3_moved.2.1 12 = .ok (.iload_n 1, 1) := by decide +kernel
theorem dX3_moved_13 : decode t_X3_moved.2.1 13 = .ok (.iload 4, 2) := by decide +kernel
theorem dX3_moved_15 : decode t_X3_moved.2.1 15 = .ok (.ishr, 1) := by decide +kernel
theorem dX3_moved_16 : decode t_X3_moved.2.1 16 = .ok (.iconst 3, 1) := by decide +kernel
theorem dX3_moved_17 : decode t_X3_moved.2.1 17 = .ok (.iand, 1) := by decide +kernel
theorem dX3_moved_18 : decode t_X3_moved.2.1 18 = .ok (.istore 5, 2) := by decide +kernel
theorem dX3_moved_20 : decode t_X3_moved.2.1 20 = .ok (.iload 5, 2) := by decide +kernel
theorem dX3_moved_22 : decode t_X3_moved.2.1 22 = .ok (.iload_n 3, 1) := by decide +kernel
theorem dX3_moved_23 : decode t_X3_moved.2.1 23 = .ok (.isub, 1) := by decide +kernel
theorem dX3_moved_24 : decode t_X3_moved.2.1 24 = .ok (.iconst 3, 1) := by decide +kernel
theorem dX3_moved_25 : decode t_X3_moved.2.1 25 = .ok (.iand, 1) := by decide +kernel
theorem dX3_moved_26 : decode t_X3_moved.2.1 26 = .ok (.istore 6, 2) := by decide +kernel
theorem dX3_moved_28 : decode t_X3_moved.2.1 28 = .ok (.aload_n 0, 1) := by decide +kernel
theorem dX3_moved_29 : decode t_X3_moved.2.1 29 = .ok (.getfield 9, 3) := by decide +kernel
theorem gX3_moved_29 : wm_gf t_X3_moved 29 3 0 := ⟨_, _, _, 9, rfl, by decide, wd_199, dX3_moved_29⟩
theorem dX3_moved_32 : decode t_X3_moved.2.1 32 = .ok (.iload_n 1, 1) := by decide +kernel
theorem dX3_moved_33 : decode t_X3_moved.2.1 33 = .ok (.iload 6, 2) := by decide +kernel
theorem dX3_moved_35 : decode t_X3_moved.2.1 35 = .ok (.iload 5, 2) := by decide +kernel
theorem dX3_moved_37 : decode t_X3_moved.2.1 37 = .ok (.isub, 1) := by decide +kernel
theorem dX3_moved_38 : decode t_X3_moved.2.1 38 = .ok (.iload 4, 2) := by decide +kernel
theorem dX3_moved_40 : decode t_X3_moved.2.1 40 = .ok (.ishl, 1) := by decide +kernel
theorem dX3_moved_41 : decode t_X3_moved.2.1 41 = .ok (.iadd, 1) := by decide +kernel
theorem dX3_moved_42 : decode t_X3_moved.2.1 42 = .ok (.laload, 1) := by decide +kernel
theorem dX3_moved_43 : decode t_X3_moved.2.1 43 = .ok (.lreturn, 1) := by decide +kernel
theorem dX3_moved_44 : decode t_X3_moved.2.1 44 = .ok (.iconst 1, 1) := by decide +kernel
theorem dX3_moved_45 : decode t_X3_moved.2.1 45 = .ok (.iconst 2, 1) := by decide +kernel
theorem dX3_moved_46 : decode t_X3_moved.2.1 46 = .ok (.iload_n 2, 1) := by decide +kernel
theorem dX3_moved_47 : decode t_X3_moved.2.1 47 = .ok (.imul, 1) := by decide +kernel
theorem dX3_moved_48 : decode t_X3_moved.2.1 48 = .ok (.ishl, 1) := by decide +kernel
theorem dX3_moved_49 : decode t_X3_moved.2.1 49 = .ok (.istore 4, 2) := by decide +kernel
theorem dX3_moved_51 : decode t_X3_moved.2.1 51 = .ok (.lconst 0, 1) := by decide +kernel
theorem dX3_moved_52 : decode t_X3_moved.2.1 52 = .ok (.lstore 5, 2) := by decide +kernel
theorem dX3_moved_54 : decode t_X3_moved.2.1 54 = .ok (.iconst 4, 1) := by decide +kernel
theorem dX3_moved_55 : decode t_X3_moved.2.1 55 = .ok (.iload_n 3, 1) := by decide +kernel
theorem dX3_moved_56 : decode t_X3_moved.2.1 56 = .ok (.isub, 1) := by decide +kernel
theorem dX3_moved_57 : decode t_X3_moved.2.1 57 = .ok (.istore 7, 2) := by decide +kernel
theorem dX3_moved_59 : decode t_X3_moved.2.1 59 = .ok (.iload 7, 2) := by decide +kernel
theorem dX3_moved_61 : decode t_X3_moved.2.1 61 = .ok (.iconst 4, 1) := by decide +kernel
theorem dX3_moved_62 : decode t_X3_moved.2.1 62 = .ok (.if_icmp .ge 25, 3) := by decide +kernel
theorem dX3_moved_65 : decode t_X3_moved.2.1 65 = .ok (.lload 5, 2) := by decide +kernel
theorem dX3_moved_67 : decode t_X3_moved.2.1 67 = .ok (.getstatic 50, 3) := by decide +kernel
theorem gX3_moved_67 : wm_gs t_X3_moved 67 := ⟨50, wd_630, dX3_moved_67⟩
theorem dX3_moved_70 : decode t_X3_moved.2.1 70 = .ok (.iload_n 2, 1) := by decide +kernel
theorem dX3_moved_71 : decode t_X3_moved.2.1 71 = .ok (.laload, 1) := by decide +kernel
theorem dX3_moved_72 : decode t_X3_moved.2.1 72 = .ok (.iload 7, 2) := by decide +kernel
theorem dX3_moved_74 : decode t_X3_moved.2.1 74 = .ok (.iload 4, 2) := by decide +kernel
theorem dX3_moved_76 : decode t_X3_moved.2.1 76 = .ok (.imul, 1) := by decide +kernel
theorem dX3_moved_77 : decode t_X3_moved.2.1 77 = .ok (.lshl, 1) := by decide +kernel
theorem dX3_moved_78 : decode t_X3_moved.2.1 78 = .ok (.lor, 1) := by decide +kernel
theorem dX3_moved_79 : decode t_X3_moved.2.1 79 = .ok (.lstore 5, 2) := by decide +kernel
theorem dX3_moved_81 : decode t_X3_moved.2.1 81 = .ok (.iinc 7 1, 3) := by decide +kernel
theorem dX3_moved_84 : decode t_X3_moved.2.1 84 = .ok (.goto (-25), 3) := by decide +kernel
theorem dX3_moved_87 : decode t_X3_moved.2.1 87 = .ok (.aload_n 0, 1) := by decide +kernel
theorem dX3_moved_88 : decode t_X3_moved.2.1 88 = .ok (.getfield 9, 3) := by decide +kernel
theorem gX3_moved_88 : wm_gf t_X3_moved 88 3 0 := ⟨_, _, _, 9, rfl, by decide, wd_199, dX3_moved_88⟩
theorem dX3_moved_91 : decode t_X3_moved.2.1 91 = .ok (.iload_n 1, 1) := by decide +kernel
theorem dX3_moved_92 : decode t_X3_moved.2.1 92 = .ok (.laload, 1) := by decide +kernel
theorem dX3_moved_93 : decode t_X3_moved.2.1 93 = .ok (.lload 5, 2) := by decide +kernel
theorem dX3_moved_95 : decode t_X3_moved.2.1 95 = .ok (.ldc2_w 40, 3) := by decide +kernel
theorem kX3_moved_95 : Cond.constantLong t_X3_moved.1.cls 40 (-1) ∈ lw_gd := wd_629
theorem dX3_moved_98 : decode t_X3_moved.2.1 98 = .ok (.lxor, 1) := by decide +kernel
theorem dX3_moved_99 : decode t_X3_moved.2.1 99 = .ok (.land, 1) := by decide +kernel
theorem dX3_moved_100 : decode t_X3_moved.2.1 100 = .ok (.iload_n 3, 1) := by decide +kernel
theorem dX3_moved_101 : decode t_X3_moved.2.1 101 = .ok (.iload 4, 2) := by decide +kernel
theorem dX3_moved_103 : decode t_X3_moved.2.1 103 = .ok (.imul, 1) := by decide +kernel
theorem dX3_moved_104 : decode t_X3_moved.2.1 104 = .ok (.lshl, 1) := by decide +kernel
theorem dX3_moved_105 : decode t_X3_moved.2.1 105 = .ok (.lstore 7, 2) := by decide +kernel
theorem dX3_moved_107 : decode t_X3_moved.2.1 107 = .ok (.lload 7, 2) := by decide +kernel
theorem dX3_moved_109 : decode t_X3_moved.2.1 109 = .ok (.aload_n 0, 1) := by decide +kernel
theorem dX3_moved_110 : decode t_X3_moved.2.1 110 = .ok (.getfield 9, 3) := by decide +kernel
theorem gX3_moved_110 : wm_gf t_X3_moved 110 3 0 := ⟨_, _, _, 9, rfl, by decide, wd_199, dX3_moved_110⟩
theorem dX3_moved_113 : decode t_X3_moved.2.1 113 = .ok (.iload_n 1, 1) := by decide +kernel
theorem dX3_moved_114 : decode t_X3_moved.2.1 114 = .ok (.laload, 1) := by decide +kernel
theorem dX3_moved_115 : decode t_X3_moved.2.1 115 = .ok (.lload 5, 2) := by decide +kernel
theorem dX3_moved_117 : decode t_X3_moved.2.1 117 = .ok (.land, 1) := by decide +kernel
theorem dX3_moved_118 : decode t_X3_moved.2.1 118 = .ok (.iconst 4, 1) := by decide +kernel
theorem dX3_moved_119 : decode t_X3_moved.2.1 119 = .ok (.iload_n 3, 1) := by decide +kernel
theorem dX3_moved_120 : decode t_X3_moved.2.1 120 = .ok (.isub, 1) := by decide +kernel
theorem dX3_moved_121 : decode t_X3_moved.2.1 121 = .ok (.iload 4, 2) := by decide +kernel
theorem dX3_moved_123 : decode t_X3_moved.2.1 123 = .ok (.imul, 1) := by decide +kernel
theorem dX3_moved_124 : decode t_X3_moved.2.1 124 = .ok (.lushr, 1) := by decide +kernel
theorem dX3_moved_125 : decode t_X3_moved.2.1 125 = .ok (.lor, 1) := by decide +kernel
theorem dX3_moved_126 : decode t_X3_moved.2.1 126 = .ok (.lreturn, 1) := by decide +kernel
