theorem wd_560 : Cond.code yX0_rebuildAll cX0_rebuildAll 2 (none) ∈ lw_gd := List.mem_filter.mpr ⟨List.mem_of_getElem? (i := 560) (by decide +kernel), by decide +kernel⟩
theorem wd_82 : Cond.initialized RX0 ∈ lw_gd := List.mem_filter.mpr ⟨List.mem_of_getElem? (i := 82) (by decide +kernel), by decide +kernel⟩
theorem wd_558 : Cond.instanceMethod yX0_rebuildAll ∈ lw_gd := List.mem_filter.mpr ⟨List.mem_of_getElem? (i := 558) (by decide +kernel), by decide +kernel⟩
theorem wd_559 : Cond.selects RX0 yX0_rebuildAll yX0_rebuildAll ∈ lw_gd := List.mem_filter.mpr ⟨List.mem_of_getElem? (i := 559) (by decide +kernel), by decide +kernel⟩
theorem vX0_rebuildAll : wm_calV t_X0_rebuildAll 0 := ⟨⟨wd_560, wd_82, by decide +kernel, by decide +kernel, by decide +kernel⟩, wd_558, wd_559⟩
theorem dX0_rebuildAll_0 : decode t_X0_rebuildAll.2.1 0 = .ok (.iconst 0, 1) := by decide +kernel
theorem dX0_rebuildAll_1 : decode t_X0_rebuildAll.2.1 1 = .ok (.istore_n 1, 1) := by decide +kernel
theorem dX0_rebuildAll_2 : decode t_X0_rebuildAll.2.1 2 = .ok (.iload_n 1, 1) := by decide +kernel
theorem dX0_rebuildAll_3 : decode t_X0_rebuildAll.2.1 3 = .ok (.iconst 4, 1) := by decide +kernel
theorem dX0_rebuildAll_4 : decode t_X0_rebuildAll.2.1 4 = .ok (.if_icmp .ge 14, 3) := by decide +kernel
theorem dX0_rebuildAll_7 : decode t_X0_rebuildAll.2.1 7 = .ok (.aload_n 0, 1) := by decide +kernel
theorem dX0_rebuildAll_8 : decode t_X0_rebuildAll.2.1 8 = .ok (.iload_n 1, 1) := by decide +kernel
theorem dX0_rebuildAll_9 : decode t_X0_rebuildAll.2.1 9 = .ok (.invokevirtual 39, 3) := by decide +kernel
theorem wd_561 : Cond.methodLink RX0 39 yX0_rebuild ∈ lw_gd := List.mem_filter.mpr ⟨List.mem_of_getElem? (i := 561) (by decide +kernel), by decide +kernel⟩
theorem iX0_rebuildAll_9 : wm_iv t_X0_rebuildAll t_X0_rebuild 9 := ⟨39, wd_561, dX0_rebuildAll_9⟩
theorem dX0_rebuildAll_12 : decode t_X0_rebuildAll.2.1 12 = .ok (.iinc 1 1, 3) := by decide +kernel
theorem dX0_rebuildAll_15 : decode t_X0_rebuildAll.2.1 15 = .ok (.goto (-13), 3) := by decide +kernel
theorem dX0_rebuildAll_18 : decode t_X0_rebuildAll.2.1 18 = .ok (.return_, 1) := by decide +kernel
theorem wd_564 : Cond.code yX0_rebuild cX0_rebuild 4 (none) ∈ lw_gd := List.mem_filter.mpr ⟨List.mem_of_getElem? (i := 564) (by decide +kernel), by decide +kernel⟩
theorem wd_562 : Cond.instanceMethod yX0_rebuild ∈ lw_gd := List.mem_filter.mpr ⟨List.mem_of_getElem? (i := 562) (by decide +kernel), by decide +kernel⟩
theorem wd_563 : Cond.selects RX0 yX0_rebuild yX0_rebuild ∈ lw_gd := List.mem_filter.mpr ⟨List.mem_of_getElem? (i := 563) (by decide +kernel), by decide +kernel⟩
theorem vX0_rebuild : wm_calV t_X0_rebuild 1 := ⟨⟨wd_564, wd_82, by decide +kernel, by decide +kernel, by decide +kernel⟩, wd_562, wd_563⟩
theorem dX0_rebuild_0 : decode t_X0_rebuild.2.1 0 = .ok (.aload_n 0, 1) := by decide +kernel
theorem dX0_rebuild_1 : decode t_X0_rebuild.2.1 1 = .ok (.getfield 22, 3) := by decide +kernel
theorem wd_206 : Cond.fieldLink RX0 22 "TurnedStones$LawBook" "standing" "[LTurnedStones$StateSet;" ∈ lw_gd := List.mem_filter.mpr ⟨List.mem_of_getElem? (i := 206) (by decide +kernel), by decide +kernel⟩
theorem gX0_rebuild_1 : wm_gf t_X0_rebuild 1 0 1 := ⟨_, _, _, 22, rfl, by decide, wd_206, dX0_rebuild_1⟩
theorem dX0_rebuild_4 : decode t_X0_rebuild.2.1 4 = .ok (.iload_n 1, 1) := by decide +kernel
theorem dX0_rebuild_5 : decode t_X0_rebuild.2.1 5 = .ok (.aaload, 1) := by decide +kernel
theorem dX0_rebuild_6 : decode t_X0_rebuild.2.1 6 = .ok (.invokevirtual 43, 3) := by decide +kernel
theorem wd_565 : Cond.methodLink RX0 43 yX3_clear ∈ lw_gd := List.mem_filter.mpr ⟨List.mem_of_getElem? (i := 565) (by decide +kernel), by decide +kernel⟩
theorem iX0_rebuild_6 : wm_iv t_X0_rebuild t_X3_clear 6 := ⟨43, wd_565, dX0_rebuild_6⟩
theorem dX0_rebuild_9 : decode t_X0_rebuild.2.1 9 = .ok (.aload_n 0, 1) := by decide +kernel
theorem dX0_rebuild_10 : decode t_X0_rebuild.2.1 10 = .ok (.getfield 14, 3) := by decide +kernel
theorem wd_204 : Cond.fieldLink RX0 14 "TurnedStones$LawBook" "words" "LTurnedStones$Table;" ∈ lw_gd := List.mem_filter.mpr ⟨List.mem_of_getElem? (i := 204) (by decide +kernel), by decide +kernel⟩
theorem gX0_rebuild_10 : wm_gf t_X0_rebuild 10 0 0 := ⟨_, _, _, 14, rfl, by decide, wd_204, dX0_rebuild_10⟩
theorem dX0_rebuild_13 : decode t_X0_rebuild.2.1 13 = .ok (.iload_n 1, 1) := by decide +kernel
theorem dX0_rebuild_14 : decode t_X0_rebuild.2.1 14 = .ok (.invokevirtual 46, 3) := by decide +kernel
theorem wd_572 : Cond.methodLink RX0 46 yX5_has ∈ lw_gd := List.mem_filter.mpr ⟨List.mem_of_getElem? (i := 572) (by decide +kernel), by decide +kernel⟩
theorem iX0_rebuild_14 : wm_iv t_X0_rebuild t_X5_has 14 := ⟨46, wd_572, dX0_rebuild_14⟩
theorem dX0_rebuild_17 : decode t_X0_rebuild.2.1 17 = .ok (.ifCond .ne 4, 3) := by decide +kernel
theorem dX0_rebuild_20 : decode t_X0_rebuild.2.1 20 = .ok (.return_, 1) := by decide +kernel
theorem dX0_rebuild_21 : decode t_X0_rebuild.2.1 21 = .ok (.iconst 0, 1) := by decide +kernel
theorem dX0_rebuild_22 : decode t_X0_rebuild.2.1 22 = .ok (.istore_n 2, 1) := by decide +kernel
theorem dX0_rebuild_23 : decode t_X0_rebuild.2.1 23 = .ok (.iload_n 2, 1) := by decide +kernel
theorem dX0_rebuild_24 : decode t_X0_rebuild.2.1 24 = .ok (.aload_n 0, 1) := by decide +kernel
theorem dX0_rebuild_25 : decode t_X0_rebuild.2.1 25 = .ok (.getfield 34, 3) := by decide +kernel
theorem wd_211 : Cond.fieldLink RX0 34 "TurnedStones$LawBook" "stones" "LTurnedStones$Stones;" ∈ lw_gd := List.mem_filter.mpr ⟨List.mem_of_getElem? (i := 211) (by decide +kernel), by decide +kernel⟩
theorem gX0_rebuild_25 : wm_gf t_X0_rebuild 25 0 3 := ⟨_, _, _, 34, rfl, by decide, wd_211, dX0_rebuild_25⟩
theorem dX0_rebuild_28 : decode t_X0_rebuild.2.1 28 = .ok (.invokevirtual 50, 3) := by decide +kernel
theorem wd_573 : Cond.methodLink RX0 50 yX4_streets ∈ lw_gd := List.mem_filter.mpr ⟨List.mem_of_getElem? (i := 573) (by decide +kernel), by decide +kernel⟩
theorem iX0_rebuild_28 : wm_iv t_X0_rebuild t_X4_streets 28 := ⟨50, wd_573, dX0_rebuild_28⟩
theorem dX0_rebuild_31 : decode t_X0_rebuild.2.1 31 = .ok (.if_icmp .ge 29, 3) := by decide +kernel
theorem dX0_rebuild_34 : decode t_X0_rebuild.2.1 34 = .ok (.iconst 0, 1) := by decide +kernel
theorem dX0_rebuild_35 : decode t_X0_rebuild.2.1 35 = .ok (.istore_n 3, 1) := by decide +kernel
theorem dX0_rebuild_36 : decode t_X0_rebuild.2.1 36 = .ok (.iload_n 3, 1) := by decide +kernel
theorem dX0_rebuild_37 : decode t_X0_rebuild.2.1 37 = .ok (.iconst 2, 1) := by decide +kernel
theorem dX0_rebuild_38 : decode t_X0_rebuild.2.1 38 = .ok (.if_icmp .ge 16, 3) := by decide +kernel
theorem dX0_rebuild_41 : decode t_X0_rebuild.2.1 41 = .ok (.aload_n 0, 1) := by decide +kernel
theorem dX0_rebuild_42 : decode t_X0_rebuild.2.1 42 = .ok (.iload_n 1, 1) := by decide +kernel
theorem dX0_rebuild_43 : decode t_X0_rebuild.2.1 43 = .ok (.iload_n 2, 1) := by decide +kernel
theorem dX0_rebuild_44 : decode t_X0_rebuild.2.1 44 = .ok (.iload_n 3, 1) := by decide +kernel
theorem dX0_rebuild_45 : decode t_X0_rebuild.2.1 45 = .ok (.invokevirtual 56, 3) := by decide +kernel
theorem wd_577 : Cond.methodLink RX0 56 yX0_joinStreet ∈ lw_gd := List.mem_filter.mpr ⟨List.mem_of_getElem? (i := 577) (by decide +kernel), by decide +kernel⟩
theorem iX0_rebuild_45 : wm_iv t_X0_rebuild t_X0_joinStreet 45 := ⟨56, wd_577, dX0_rebuild_45⟩
theorem dX0_rebuild_48 : decode t_X0_rebuild.2.1 48 = .ok (.iinc 3 1, 3) := by decide +kernel
theorem dX0_rebuild_51 : decode t_X0_rebuild.2.1 51 = .ok (.goto (-15), 3) := by decide +kernel
theorem dX0_rebuild_54 : decode t_X0_rebuild.2.1 54 = .ok (.iinc 2 1, 3) := by decide +kernel
theorem dX0_rebuild_57 : decode t_X0_rebuild.2.1 57 = .ok (.goto (-34), 3) := by decide +kernel
theorem dX0_rebuild_60 : decode t_X0_rebuild.2.1 60 = .ok (.return_, 1) := by decide +kernel
theorem wd_580 : Cond.code yX0_joinStreet cX0_joinStreet 8 (none) ∈ lw_gd := List.mem_filter.mpr ⟨List.mem_of_getElem? (i := 580) (by decide +kernel), by decide +kernel⟩
theorem wd_579 : Cond.instanceMethod yX0_joinStreet ∈ lw_gd := List.mem_filter.mpr ⟨List.mem_of_getElem? (i := 579) (by decide +kernel), by decide +kernel⟩
theorem wd_12 : Cond.selects RX0 yX0_joinStreet yX0_joinStreet ∈ lw_gd := List.mem_filter.mpr ⟨List.mem_of_getElem? (i := 12) (by decide +kernel), by decide +kernel⟩
theorem vX0_joinStreet : wm_calV t_X0_joinStreet 3 := ⟨⟨wd_580, wd_82, by decide +kernel, by decide +kernel, by decide +kernel⟩, wd_579, wd_12⟩
theorem dX0_joinStreet_0 : decode t_X0_joinStreet.2.1 0 = .ok (.aload_n 0, 1) := by decide +kernel
theorem dX0_joinStreet_1 : decode t_X0_joinStreet.2.1 1 = .ok (.getfield 34, 3) := by decide +kernel
theorem gX0_joinStreet_1 : wm_gf t_X0_joinStreet 1 0 3 := ⟨_, _, _, 34, rfl, by decide, wd_211, dX0_joinStreet_1⟩
theorem dX0_joinStreet_4 : decode t_X0_joinStreet.2.1 4 = .ok (.iload_n 2, 1) := by decide +kernel
theorem dX0_joinStreet_5 : decode t_X0_joinStreet.2.1 5 = .ok (.iload_n 3, 1) := by decide +kernel
theorem dX0_joinStreet_6 : decode t_X0_joinStreet.2.1 6 = .ok (.invokevirtual 60, 3) := by decide +kernel
theorem wd_581 : Cond.methodLink RX0 60 yX4_firstSide ∈ lw_gd := List.mem_filter.mpr ⟨List.mem_of_getElem? (i := 581) (by decide +kernel), by decide +kernel⟩
theorem iX0_joinStreet_6 : wm_iv t_X0_joinStreet t_X4_firstSide 6 := ⟨60, wd_581, dX0_joinStreet_6⟩
theorem dX0_joinStreet_9 : decode t_X0_joinStreet.2.1 9 = .ok (.istore 4, 2) := by decide +kernel
theorem dX0_joinStreet_11 : decode t_X0_joinStreet.2.1 11 = .ok (.iconst 0, 1) := by decide +kernel
theorem dX0_joinStreet_12 : decode t_X0_joinStreet.2.1 12 = .ok (.istore 5, 2) := by decide +kernel
theorem dX0_joinStreet_14 : decode t_X0_joinStreet.2.1 14 = .ok (.iload 5, 2) := by decide +kernel
theorem dX0_joinStreet_16 : decode t_X0_joinStreet.2.1 16 = .ok (.aload_n 0, 1) := by decide +kernel
theorem dX0_joinStreet_17 : decode t_X0_joinStreet.2.1 17 = .ok (.iload_n 1, 1) := by decide +kernel
theorem dX0_joinStreet_18 : decode t_X0_joinStreet.2.1 18 = .ok (.iload_n 2, 1) := by decide +kernel
theorem dX0_joinStreet_19 : decode t_X0_joinStreet.2.1 19 = .ok (.invokevirtual 64, 3) := by decide +kernel
theorem wd_585 : Cond.methodLink RX0 64 yX0_lastStart ∈ lw_gd := List.mem_filter.mpr ⟨List.mem_of_getElem? (i := 585) (by decide +kernel), by decide +kernel⟩
theorem iX0_joinStreet_19 : wm_iv t_X0_joinStreet t_X0_lastStart 19 := ⟨64, wd_585, dX0_joinStreet_19⟩
theorem dX0_joinStreet_22 : decode t_X0_joinStreet.2.1 22 = .ok (.if_icmp .gt 102, 3) := by decide +kernel
theorem dX0_joinStreet_25 : decode t_X0_joinStreet.2.1 25 = .ok (.aload_n 0, 1) := by decide +kernel
theorem dX0_joinStreet_26 : decode t_X0_joinStreet.2.1 26 = .ok (.getfield 34, 3) := by decide +kernel
theorem gX0_joinStreet_26 : wm_gf t_X0_joinStreet 26 0 3 := ⟨_, _, _, 34, rfl, by decide, wd_211, dX0_joinStreet_26⟩
theorem dX0_joinStreet_29 : decode t_X0_joinStreet.2.1 29 = .ok (.aload_n 0, 1) := by decide +kernel
theorem dX0_joinStreet_30 : decode t_X0_joinStreet.2.1 30 = .ok (.getfield 30, 3) := by decide +kernel
theorem wd_212 : Cond.fieldLink RX0 30 "TurnedStones$LawBook" "quarterBits" "[I" ∈ lw_gd := List.mem_filter.mpr ⟨List.mem_of_getElem? (i := 212) (by decide +kernel), by decide +kernel⟩
theorem gX0_joinStreet_30 : wm_gf t_X0_joinStreet 30 0 4 := ⟨_, _, _, 30, rfl, by decide, wd_212, dX0_joinStreet_30⟩
theorem dX0_joinStreet_33 : decode t_X0_joinStreet.2.1 33 = .ok (.invokevirtual 67, 3) := by decide +kernel
theorem wd_594 : Cond.methodLink RX0 67 yX4_quartersHad ∈ lw_gd := List.mem_filter.mpr ⟨List.mem_of_getElem? (i := 594) (by decide +kernel), by decide +kernel⟩
theorem iX0_joinStreet_33 : wm_iv t_X0_joinStreet t_X4_quartersHad 33 := ⟨67, wd_594, dX0_joinStreet_33⟩
theorem dX0_joinStreet_36 : decode t_X0_joinStreet.2.1 36 = .ok (.iconst 0, 1) := by decide +kernel
theorem dX0_joinStreet_37 : decode t_X0_joinStreet.2.1 37 = .ok (.istore 6, 2) := by decide +kernel
theorem dX0_joinStreet_39 : decode t_X0_joinStreet.2.1 39 = .ok (.iload 6, 2) := by decide +kernel
theorem dX0_joinStreet_41 : decode t_X0_joinStreet.2.1 41 = .ok (.aload_n 0, 1) := by decide +kernel
theorem dX0_joinStreet_42 : decode t_X0_joinStreet.2.1 42 = .ok (.getfield 14, 3) := by decide +kernel
theorem gX0_joinStreet_42 : wm_gf t_X0_joinStreet 42 0 0 := ⟨_, _, _, 14, rfl, by decide, wd_204, dX0_joinStreet_42⟩
theorem dX0_joinStreet_45 : decode t_X0_joinStreet.2.1 45 = .ok (.iload_n 1, 1) := by decide +kernel
theorem dX0_joinStreet_46 : decode t_X0_joinStreet.2.1 46 = .ok (.invokevirtual 71, 3) := by decide +kernel
theorem wd_593 : Cond.methodLink RX0 71 yX5_size ∈ lw_gd := List.mem_filter.mpr ⟨List.mem_of_getElem? (i := 593) (by decide +kernel), by decide +kernel⟩
theorem iX0_joinStreet_46 : wm_iv t_X0_joinStreet t_X5_size 46 := ⟨71, wd_593, dX0_joinStreet_46⟩
theorem dX0_joinStreet_49 : decode t_X0_joinStreet.2.1 49 = .ok (.if_icmp .ge 56, 3) := by decide +kernel
theorem dX0_joinStreet_52 : decode t_X0_joinStreet.2.1 52 = .ok (.aload_n 0, 1) := by decide +kernel
theorem dX0_joinStreet_53 : decode t_X0_joinStreet.2.1 53 = .ok (.getfield 34, 3) := by decide +kernel
theorem gX0_joinStreet_53 : wm_gf t_X0_joinStreet 53 0 3 := ⟨_, _, _, 34, rfl, by decide, wd_211, dX0_joinStreet_53⟩
theorem dX0_joinStreet_56 : decode t_X0_joinStreet.2.1 56 = .ok (.iload_n 2, 1) := by decide +kernel
theorem dX0_joinStreet_57 : decode t_X0_joinStreet.2.1 57 = .ok (.iload_n 3, 1) := by decide +kernel
theorem dX0_joinStreet_58 : decode t_X0_joinStreet.2.1 58 = .ok (.iload 5, 2) := by decide +kernel
theorem dX0_joinStreet_60 : decode t_X0_joinStreet.2.1 60 = .ok (.iload 6, 2) := by decide +kernel
theorem dX0_joinStreet_62 : decode t_X0_joinStreet.2.1 62 = .ok (.iadd, 1) := by decide +kernel
theorem dX0_joinStreet_63 : decode t_X0_joinStreet.2.1 63 = .ok (.invokevirtual 75, 3) := by decide +kernel
theorem wd_608 : Cond.methodLink RX0 75 yX4_stoneAt ∈ lw_gd := List.mem_filter.mpr ⟨List.mem_of_getElem? (i := 608) (by decide +kernel), by decide +kernel⟩
theorem iX0_joinStreet_63 : wm_iv t_X0_joinStreet t_X4_stoneAt 63 := ⟨75, wd_608, dX0_joinStreet_63⟩
theorem dX0_joinStreet_66 : decode t_X0_joinStreet.2.1 66 = .ok (.istore 7, 2) := by decide +kernel
theorem dX0_joinStreet_68 : decode t_X0_joinStreet.2.1 68 = .ok (.aload_n 0, 1) := by decide +kernel
theorem dX0_joinStreet_69 : decode t_X0_joinStreet.2.1 69 = .ok (.getfield 30, 3) := by decide +kernel
theorem gX0_joinStreet_69 : wm_gf t_X0_joinStreet 69 0 4 := ⟨_, _, _, 30, rfl, by decide, wd_212, dX0_joinStreet_69⟩
theorem dX0_joinStreet_72 : decode t_X0_joinStreet.2.1 72 = .ok (.iload 7, 2) := by decide +kernel
theorem dX0_joinStreet_74 : decode t_X0_joinStreet.2.1 74 = .ok (.dup2, 1) := by decide +kernel
theorem dX0_joinStreet_75 : decode t_X0_joinStreet.2.1 75 = .ok (.iaload, 1) := by decide +kernel
theorem dX0_joinStreet_76 : decode t_X0_joinStreet.2.1 76 = .ok (.aload_n 0, 1) := by decide +kernel
theorem dX0_joinStreet_77 : decode t_X0_joinStreet.2.1 77 = .ok (.getfield 34, 3) := by decide +kernel
theorem gX0_joinStreet_77 : wm_gf t_X0_joinStreet 77 0 3 := ⟨_, _, _, 34, rfl, by decide, wd_211, dX0_joinStreet_77⟩
theorem dX0_joinStreet_80 : decode t_X0_joinStreet.2.1 80 = .ok (.iload 7, 2) := by decide +kernel
theorem dX0_joinStreet_82 : decode t_X0_joinStreet.2.1 82 = .ok (.iload 4, 2) := by decide +kernel
theorem dX0_joinStreet_84 : decode t_X0_joinStreet.2.1 84 = .ok (.aload_n 0, 1) := by decide +kernel
theorem dX0_joinStreet_85 : decode t_X0_joinStreet.2.1 85 = .ok (.getfield 14, 3) := by decide +kernel
theorem gX0_joinStreet_85 : wm_gf t_X0_joinStreet 85 0 0 := ⟨_, _, _, 14, rfl, by decide, wd_204, dX0_joinStreet_85⟩
theorem dX0_joinStreet_88 : decode t_X0_joinStreet.2.1 88 = .ok (.iload_n 1, 1) := by decide +kernel
theorem dX0_joinStreet_89 : decode t_X0_joinStreet.2.1 89 = .ok (.iload 6, 2) := by decide +kernel
theorem dX0_joinStreet_91 : decode t_X0_joinStreet.2.1 91 = .ok (.invokevirtual 79, 3) := by decide +kernel
theorem wd_613 : Cond.methodLink RX0 79 yX5_get ∈ lw_gd := List.mem_filter.mpr ⟨List.mem_of_getElem? (i := 613) (by decide +kernel), by decide +kernel⟩
theorem iX0_joinStreet_91 : wm_iv t_X0_joinStreet t_X5_get 91 := ⟨79, wd_613, dX0_joinStreet_91⟩
theorem dX0_joinStreet_94 : decode t_X0_joinStreet.2.1 94 = .ok (.invokevirtual 82, 3) := by decide +kernel
theorem wd_614 : Cond.methodLink RX0 82 yX4_quartersShowing ∈ lw_gd := List.mem_filter.mpr ⟨List.mem_of_getElem? (i := 614) (by decide +kernel), by decide +kernel⟩
theorem iX0_joinStreet_94 : wm_iv t_X0_joinStreet t_X4_quartersShowing 94 := ⟨82, wd_614, dX0_joinStreet_94⟩
theorem dX0_joinStreet_97 : decode t_X0_joinStreet.2.1 97 = .ok (.iand, 1) := by decide +kernel
theorem dX0_joinStreet_98 : decode t_X0_joinStreet.2.1 98 = .ok (.iastore, 1) := by decide +kernel
theorem dX0_joinStreet_99 : decode t_X0_joinStreet.2.1 99 = .ok (.iinc 6 1, 3) := by decide +kernel
theorem dX0_joinStreet_102 : decode t_X0_joinStreet.2.1 102 = .ok (.goto (-63), 3) := by decide +kernel
theorem dX0_joinStreet_105 : decode t_X0_joinStreet.2.1 105 = .ok (.aload_n 0, 1) := by decide +kernel
theorem dX0_joinStreet_106 : decode t_X0_joinStreet.2.1 106 = .ok (.getfield 22, 3) := by decide +kernel
theorem gX0_joinStreet_106 : wm_gf t_X0_joinStreet 106 0 1 := ⟨_, _, _, 22, rfl, by decide, wd_206, dX0_joinStreet_106⟩
theorem dX0_joinStreet_109 : decode t_X0_joinStreet.2.1 109 = .ok (.iload_n 1, 1) := by decide +kernel
theorem dX0_joinStreet_110 : decode t_X0_joinStreet.2.1 110 = .ok (.aaload, 1) := by decide +kernel
theorem dX0_joinStreet_111 : decode t_X0_joinStreet.2.1 111 = .ok (.aload_n 0, 1) := by decide +kernel
theorem dX0_joinStreet_112 : decode t_X0_joinStreet.2.1 112 = .ok (.getfield 30, 3) := by decide +kernel
theorem gX0_joinStreet_112 : wm_gf t_X0_joinStreet 112 0 4 := ⟨_, _, _, 30, rfl, by decide, wd_212, dX0_joinStreet_112⟩
theorem dX0_joinStreet_115 : decode t_X0_joinStreet.2.1 115 = .ok (.invokevirtual 85, 3) := by decide +kernel
theorem wd_622 : Cond.methodLink RX0 85 yX3_joinProduct ∈ lw_gd := List.mem_filter.mpr ⟨List.mem_of_getElem? (i := 622) (by decide +kernel), by decide +kernel⟩
theorem iX0_joinStreet_115 : wm_iv t_X0_joinStreet t_X3_joinProduct 115 := ⟨85, wd_622, dX0_joinStreet_115⟩
theorem dX0_joinStreet_118 : decode t_X0_joinStreet.2.1 118 = .ok (.iinc 5 1, 3) := by decide +kernel
theorem dX0_joinStreet_121 : decode t_X0_joinStreet.2.1 121 = .ok (.goto (-107), 3) := by decide +kernel
theorem dX0_joinStreet_124 : decode t_X0_joinStreet.2.1 124 = .ok (.return_, 1) := by decide +kernel
theorem wd_588 : Cond.code yX0_lastStart cX0_lastStart 3 (some .int) ∈ lw_gd := List.mem_filter.mpr ⟨List.mem_of_getElem? (i := 588) (by decide +kernel), by decide +kernel⟩
theorem wd_587 : Cond.instanceMethod yX0_lastStart ∈ lw_gd := List.mem_filter.mpr ⟨List.mem_of_getElem? (i := 587) (by decide +kernel), by decide +kernel⟩
theorem wd_13 : Cond.selects RX0 yX0_lastStart yX0_lastStart ∈ lw_gd := List.mem_filter.mpr ⟨List.mem_of_getElem? (i := 13) (by decide +kernel), by decide +kernel⟩
theorem vX0_lastStart : wm_calV t_X0_lastStart 2 := ⟨⟨wd_588, wd_82, by decide +kernel, by decide +kernel, by decide +kernel⟩, wd_587, wd_13⟩
theorem dX0_lastStart_0 : decode t_X0_lastStart.2.1 0 = .ok (.aload_n 0, 1) := by decide +kernel
theorem dX0_lastStart_1 : decode t_X0_lastStart.2.1 1 = .ok (.getfield 34, 3) := by decide +kernel
theorem gX0_lastStart_1 : wm_gf t_X0_lastStart 1 0 3 := ⟨_, _, _, 34, rfl, by decide, wd_211, dX0_lastStart_1⟩
theorem dX0_lastStart_4 : decode t_X0_lastStart.2.1 4 = .ok (.iload_n 2, 1) := by decide +kernel
theorem dX0_lastStart_5 : decode t_X0_lastStart.2.1 5 = .ok (.invokevirtual 88, 3) := by decide +kernel
theorem wd_589 : Cond.methodLink RX0 88 yX4_length ∈ lw_gd := List.mem_filter.mpr ⟨List.mem_of_getElem? (i := 589) (by decide +kernel), by decide +kernel⟩
theorem iX0_lastStart_5 : wm_iv t_X0_lastStart t_X4_length 5 := ⟨88, wd_589, dX0_lastStart_5⟩
theorem dX0_lastStart_8 : decode t_X0_lastStart.2.1 8 = .ok (.aload_n 0, 1) := by decide +kernel
theorem dX0_lastStart_9 : decode t_X0_lastStart.2.1 9 = .ok (.getfield 14, 3) := by decide +kernel
theorem gX0_lastStart_9 : wm_gf t_X0_lastStart 9 0 0 := ⟨_, _, _, 14, rfl, by decide, wd_204, dX0_lastStart_9⟩
theorem dX0_lastStart_12 : decode t_X0_lastStart.2.1 12 = .ok (.iload_n 1, 1) := by decide +kernel
theorem dX0_lastStart_13 : decode t_X0_lastStart.2.1 13 = .ok (.invokevirtual 71, 3) := by decide +kernel
theorem iX0_lastStart_13 : wm_iv t_X0_lastStart t_X5_size 13 := ⟨71, wd_593, dX0_lastStart_13⟩
theorem dX0_lastStart_16 : decode t_X0_lastStart.2.1 16 = .ok (.isub, 1) := by decide +kernel
theorem dX0_lastStart_17 : decode t_X0_lastStart.2.1 17 = .ok (.ireturn, 1) := by decide +kernel
theorem wd_740 : Cond.code yX0_standingIn cX0_standingIn 4 (some .int) ∈ lw_gd := List.mem_filter.mpr ⟨List.mem_of_getElem? (i := 740) (by decide +kernel), by decide +kernel⟩
theorem wd_738 : Cond.instanceMethod yX0_standingIn ∈ lw_gd := List.mem_filter.mpr ⟨List.mem_of_getElem? (i := 738) (by decide +kernel), by decide +kernel⟩
theorem wd_739 : Cond.selects RX0 yX0_standingIn yX0_standingIn ∈ lw_gd := List.mem_filter.mpr ⟨List.mem_of_getElem? (i := 739) (by decide +kernel), by decide +kernel⟩
theorem vX0_standingIn : wm_calV t_X0_standingIn 1 := ⟨⟨wd_740, wd_82, by decide +kernel, by decide +kernel, by decide +kernel⟩, wd_738, wd_739⟩
theorem dX0_standingIn_0 : decode t_X0_standingIn.2.1 0 = .ok (.iconst 0, 1) := by decide +kernel
theorem dX0_standingIn_1 : decode t_X0_standingIn.2.1 1 = .ok (.istore_n 2, 1) := by decide +kernel
theorem dX0_standingIn_2 : decode t_X0_standingIn.2.1 2 = .ok (.iconst 0, 1) := by decide +kernel
theorem dX0_standingIn_3 : decode t_X0_standingIn.2.1 3 = .ok (.istore_n 3, 1) := by decide +kernel
theorem dX0_standingIn_4 : decode t_X0_standingIn.2.1 4 = .ok (.iload_n 3, 1) := by decide +kernel
theorem dX0_standingIn_5 : decode t_X0_standingIn.2.1 5 = .ok (.iconst 4, 1) := by decide +kernel
theorem dX0_standingIn_6 : decode t_X0_standingIn.2.1 6 = .ok (.if_icmp .ge 28, 3) := by decide +kernel
theorem dX0_standingIn_9 : decode t_X0_standingIn.2.1 9 = .ok (.aload_n 0, 1) := by decide +kernel
theorem dX0_standingIn_10 : decode t_X0_standingIn.2.1 10 = .ok (.getfield 22, 3) := by decide +kernel
theorem gX0_standingIn_10 : wm_gf t_X0_standingIn 10 0 1 := ⟨_, _, _, 22, rfl, by decide, wd_206, dX0_standingIn_10⟩
theorem dX0_standingIn_13 : decode t_X0_standingIn.2.1 13 = .ok (.iload_n 3, 1) := by decide +kernel
theorem dX0_standingIn_14 : decode t_X0_standingIn.2.1 14 = .ok (.aaload, 1) := by decide +kernel
theorem dX0_standingIn_15 : decode t_X0_standingIn.2.1 15 = .ok (.iload_n 1, 1) := by decide +kernel
theorem dX0_standingIn_16 : decode t_X0_standingIn.2.1 16 = .ok (.invokevirtual 91, 3) := by decide +kernel
theorem wd_741 : Cond.methodLink RX0 91 yX3_has ∈ lw_gd := List.mem_filter.mpr ⟨List.mem_of_getElem? (i := 741) (by decide +kernel), by decide +kernel⟩
theorem iX0_standingIn_16 : wm_iv t_X0_standingIn t_X3_has 16 := ⟨91, wd_741, dX0_standingIn_16⟩
theorem dX0_standingIn_19 : decode t_X0_standingIn.2.1 19 = .ok (.ifCond .eq 9, 3) := by decide +kernel
theorem dX0_standingIn_22 : decode t_X0_standingIn.2.1 22 = .ok (.iload_n 2, 1) := by decide +kernel
theorem dX0_standingIn_23 : decode t_X0_standingIn.2.1 23 = .ok (.iconst 1, 1) := by decide +kernel
theorem dX0_standingIn_24 : decode t_X0_standingIn.2.1 24 = .ok (.iload_n 3, 1) := by decide +kernel
theorem dX0_standingIn_25 : decode t_X0_standingIn.2.1 25 = .ok (.ishl, 1) := by decide +kernel
theorem dX0_standingIn_26 : decode t_X0_standingIn.2.1 26 = .ok (.ior, 1) := by decide +kernel
theorem dX0_standingIn_27 : decode t_X0_standingIn.2.1 27 = .ok (.istore_n 2, 1) := by decide +kernel
theorem dX0_standingIn_28 : decode t_X0_standingIn.2.1 28 = .ok (.iinc 3 1, 3) := by decide +kernel
theorem dX0_standingIn_31 : decode t_X0_standingIn.2.1 31 = .ok (.goto (-27), 3) := by decide +kernel
theorem dX0_standingIn_34 : decode t_X0_standingIn.2.1 34 = .ok (.iload_n 2, 1) := by decide +kernel
theorem dX0_standingIn_35 : decode t_X0_standingIn.2.1 35 = .ok (.ireturn, 1) := by decide +kernel
theorem wd_732 : Cond.code yX0_level cX0_level 6 (some .int) ∈ lw_gd := List.mem_filter.mpr ⟨List.mem_of_getElem? (i := 732) (by decide +kernel), by decide +kernel⟩
theorem wd_730 : Cond.instanceMethod yX0_level ∈ lw_gd := List.mem_filter.mpr ⟨List.mem_of_getElem? (i := 730) (by decide +kernel), by decide +kernel⟩
theorem wd_731 : Cond.selects RX0 yX0_level yX0_level ∈ lw_gd := List.mem_filter.mpr ⟨List.mem_of_getElem? (i := 731) (by decide +kernel), by decide +kernel⟩
theorem vX0_level : wm_calV t_X0_level 2 := ⟨⟨wd_732, wd_82, by decide +kernel, by decide +kernel, by decide +kernel⟩, wd_730, wd_731⟩
theorem dX0_level_0 : decode t_X0_level.2.1 0 = .ok (.iconst 0, 1) := by decide +kernel
theorem dX0_level_1 : decode t_X0_level.2.1 1 = .ok (.istore_n 3, 1) := by decide +kernel
theorem dX0_level_2 : decode t_X0_level.2.1 2 = .ok (.iconst 0, 1) := by decide +kernel
theorem dX0_level_3 : decode t_X0_level.2.1 3 = .ok (.istore 4, 2) := by decide +kernel
theorem dX0_level_5 : decode t_X0_level.2.1 5 = .ok (.iload 4, 2) := by decide +kernel
theorem dX0_level_7 : decode t_X0_level.2.1 7 = .ok (.aload_n 0, 1) := by decide +kernel
theorem dX0_level_8 : decode t_X0_level.2.1 8 = .ok (.getfield 34, 3) := by decide +kernel
theorem gX0_level_8 : wm_gf t_X0_level 8 0 3 := ⟨_, _, _, 34, rfl, by decide, wd_211, dX0_level_8⟩
theorem dX0_level_11 : decode t_X0_level.2.1 11 = .ok (.invokevirtual 50, 3) := by decide +kernel
theorem iX0_level_11 : wm_iv t_X0_level t_X4_streets 11 := ⟨50, wd_573, dX0_level_11⟩
theorem dX0_level_14 : decode t_X0_level.2.1 14 = .ok (.if_icmp .ge 39, 3) := by decide +kernel
theorem dX0_level_17 : decode t_X0_level.2.1 17 = .ok (.iconst 0, 1) := by decide +kernel
theorem dX0_level_18 : decode t_X0_level.2.1 18 = .ok (.istore 5, 2) := by decide +kernel
theorem dX0_level_20 : decode t_X0_level.2.1 20 = .ok (.iload 5, 2) := by decide +kernel
theorem dX0_level_22 : decode t_X0_level.2.1 22 = .ok (.iconst 2, 1) := by decide +kernel
theorem dX0_level_23 : decode t_X0_level.2.1 23 = .ok (.if_icmp .ge 24, 3) := by decide +kernel
theorem dX0_level_26 : decode t_X0_level.2.1 26 = .ok (.iload_n 3, 1) := by decide +kernel
theorem dX0_level_27 : decode t_X0_level.2.1 27 = .ok (.aload_n 0, 1) := by decide +kernel
theorem dX0_level_28 : decode t_X0_level.2.1 28 = .ok (.iload_n 1, 1) := by decide +kernel
theorem dX0_level_29 : decode t_X0_level.2.1 29 = .ok (.iload_n 2, 1) := by decide +kernel
theorem dX0_level_30 : decode t_X0_level.2.1 30 = .ok (.iload 4, 2) := by decide +kernel
theorem dX0_level_32 : decode t_X0_level.2.1 32 = .ok (.iload 5, 2) := by decide +kernel
theorem dX0_level_34 : decode t_X0_level.2.1 34 = .ok (.invokevirtual 92, 3) := by decide +kernel
theorem wd_711 : Cond.methodLink RX0 92 yX0_levelIn ∈ lw_gd := List.mem_filter.mpr ⟨List.mem_of_getElem? (i := 711) (by decide +kernel), by decide +kernel⟩
theorem iX0_level_34 : wm_iv t_X0_level t_X0_levelIn 34 := ⟨92, wd_711, dX0_level_34⟩
theorem dX0_level_37 : decode t_X0_level.2.1 37 = .ok (.invokestatic 96, 3) := by decide +kernel
theorem wd_728 : Cond.methodLink RX0 96 Lib.Math.max.name ∈ lw_gd := List.mem_filter.mpr ⟨List.mem_of_getElem? (i := 728) (by decide +kernel), by decide +kernel⟩
theorem iX0_level_37 : wm_ij t_X0_level Lib.Math.max.name 37 := ⟨96, wd_728, dX0_level_37⟩
theorem dX0_level_40 : decode t_X0_level.2.1 40 = .ok (.istore_n 3, 1) := by decide +kernel
theorem dX0_level_41 : decode t_X0_level.2.1 41 = .ok (.iinc 5 1, 3) := by decide +kernel
theorem dX0_level_44 : decode t_X0_level.2.1 44 = .ok (.goto (-24), 3) := by decide +kernel
theorem dX0_level_47 : decode t_X0_level.2.1 47 = .ok (.iinc 4 1, 3) := by decide +kernel
theorem dX0_level_50 : decode t_X0_level.2.1 50 = .ok (.goto (-45), 3) := by decide +kernel
theorem dX0_level_53 : decode t_X0_level.2.1 53 = .ok (.iload_n 3, 1) := by decide +kernel
theorem dX0_level_54 : decode t_X0_level.2.1 54 = .ok (.ireturn, 1) := by decide +kernel
theorem wd_710 : Cond.code yX0_readings cX0_readings 6 (some .int) ∈ lw_gd := List.mem_filter.mpr ⟨List.mem_of_getElem? (i := 710) (by decide +kernel), by decide +kernel⟩
theorem wd_708 : Cond.instanceMethod yX0_readings ∈ lw_gd := List.mem_filter.mpr ⟨List.mem_of_getElem? (i := 708) (by decide +kernel), by decide +kernel⟩
theorem wd_709 : Cond.selects RX0 yX0_readings yX0_readings ∈ lw_gd := List.mem_filter.mpr ⟨List.mem_of_getElem? (i := 709) (by decide +kernel), by decide +kernel⟩
theorem vX0_readings : wm_calV t_X0_readings 2 := ⟨⟨wd_710, wd_82, by decide +kernel, by decide +kernel, by decide +kernel⟩, wd_708, wd_709⟩
theorem dX0_readings_0 : decode t_X0_readings.2.1 0 = .ok (.iconst 0, 1) := by decide +kernel
theorem dX0_readings_1 : decode t_X0_readings.2.1 1 = .ok (.istore_n 3, 1) := by decide +kernel
theorem dX0_readings_2 : decode t_X0_readings.2.1 2 = .ok (.iconst 0, 1) := by decide +kernel
theorem dX0_readings_3 : decode t_X0_readings.2.1 3 = .ok (.istore 4, 2) := by decide +kernel
theorem dX0_readings_5 : decode t_X0_readings.2.1 5 = .ok (.iload 4, 2) := by decide +kernel
theorem dX0_readings_7 : decode t_X0_readings.2.1 7 = .ok (.aload_n 0, 1) := by decide +kernel
theorem dX0_readings_8 : decode t_X0_readings.2.1 8 = .ok (.getfield 34, 3) := by decide +kernel
theorem gX0_readings_8 : wm_gf t_X0_readings 8 0 3 := ⟨_, _, _, 34, rfl, by decide, wd_211, dX0_readings_8⟩
theorem dX0_readings_11 : decode t_X0_readings.2.1 11 = .ok (.invokevirtual 50, 3) := by decide +kernel
theorem iX0_readings_11 : wm_iv t_X0_readings t_X4_streets 11 := ⟨50, wd_573, dX0_readings_11⟩
theorem dX0_readings_14 : decode t_X0_readings.2.1 14 = .ok (.if_icmp .ge 41, 3) := by decide +kernel
theorem dX0_readings_17 : decode t_X0_readings.2.1 17 = .ok (.iconst 0, 1) := by decide +kernel
theorem dX0_readings_18 : decode t_X0_readings.2.1 18 = .ok (.istore 5, 2) := by decide +kernel
theorem dX0_readings_20 : decode t_X0_readings.2.1 20 = .ok (.iload 5, 2) := by decide +kernel
theorem dX0_readings_22 : decode t_X0_readings.2.1 22 = .ok (.iconst 2, 1) := by decide +kernel
theorem dX0_readings_23 : decode t_X0_readings.2.1 23 = .ok (.if_icmp .ge 26, 3) := by decide +kernel
theorem dX0_readings_26 : decode t_X0_readings.2.1 26 = .ok (.aload_n 0, 1) := by decide +kernel
theorem dX0_readings_27 : decode t_X0_readings.2.1 27 = .ok (.iload_n 1, 1) := by decide +kernel
theorem dX0_readings_28 : decode t_X0_readings.2.1 28 = .ok (.iload_n 2, 1) := by decide +kernel
theorem dX0_readings_29 : decode t_X0_readings.2.1 29 = .ok (.iload 4, 2) := by decide +kernel
theorem dX0_readings_31 : decode t_X0_readings.2.1 31 = .ok (.iload 5, 2) := by decide +kernel
theorem dX0_readings_33 : decode t_X0_readings.2.1 33 = .ok (.invokevirtual 92, 3) := by decide +kernel
theorem iX0_readings_33 : wm_iv t_X0_readings t_X0_levelIn 33 := ⟨92, wd_711, dX0_readings_33⟩
theorem dX0_readings_36 : decode t_X0_readings.2.1 36 = .ok (.iconst 2, 1) := by decide +kernel
theorem dX0_readings_37 : decode t_X0_readings.2.1 37 = .ok (.if_icmp .lt 6, 3) := by decide +kernel
theorem dX0_readings_40 : decode t_X0_readings.2.1 40 = .ok (.iinc 3 1, 3) := by decide +kernel
theorem dX0_readings_43 : decode t_X0_readings.2.1 43 = .ok (.iinc 5 1, 3) := by decide +kernel
theorem dX0_readings_46 : decode t_X0_readings.2.1 46 = .ok (.goto (-26), 3) := by decide +kernel
theorem dX0_readings_49 : decode t_X0_readings.2.1 49 = .ok (.iinc 4 1, 3) := by decide +kernel
theorem dX0_readings_52 : decode t_X0_readings.2.1 52 = .ok (.goto (-47), 3) := by decide +kernel
theorem dX0_readings_55 : decode t_X0_readings.2.1 55 = .ok (.iload_n 3, 1) := by decide +kernel
theorem dX0_readings_56 : decode t_X0_readings.2.1 56 = .ok (.ireturn, 1) := by decide +kernel
theorem wd_714 : Cond.code yX0_levelIn cX0_levelIn 7 (some .int) ∈ lw_gd := List.mem_filter.mpr ⟨List.mem_of_getElem? (i := 714) (by decide +kernel), by decide +kernel⟩
theorem wd_713 : Cond.instanceMethod yX0_levelIn ∈ lw_gd := List.mem_filter.mpr ⟨List.mem_of_getElem? (i := 713) (by decide +kernel), by decide +kernel⟩
theorem wd_17 : Cond.selects RX0 yX0_levelIn yX0_levelIn ∈ lw_gd := List.mem_filter.mpr ⟨List.mem_of_getElem? (i := 17) (by decide +kernel), by decide +kernel⟩
theorem vX0_levelIn : wm_calV t_X0_levelIn 4 := ⟨⟨wd_714, wd_82, by decide +kernel, by decide +kernel, by decide +kernel⟩, wd_713, wd_17⟩
theorem dX0_levelIn_0 : decode t_X0_levelIn.2.1 0 = .ok (.iconst 0, 1) := by decide +kernel
theorem dX0_levelIn_1 : decode t_X0_levelIn.2.1 1 = .ok (.istore 5, 2) := by decide +kernel
theorem dX0_levelIn_3 : decode t_X0_levelIn.2.1 3 = .ok (.iconst 0, 1) := by decide +kernel
theorem dX0_levelIn_4 : decode t_X0_levelIn.2.1 4 = .ok (.istore 6, 2) := by decide +kernel
theorem dX0_levelIn_6 : decode t_X0_levelIn.2.1 6 = .ok (.iload 6, 2) := by decide +kernel
theorem dX0_levelIn_8 : decode t_X0_levelIn.2.1 8 = .ok (.aload_n 0, 1) := by decide +kernel
theorem dX0_levelIn_9 : decode t_X0_levelIn.2.1 9 = .ok (.iload_n 1, 1) := by decide +kernel
theorem dX0_levelIn_10 : decode t_X0_levelIn.2.1 10 = .ok (.iload_n 3, 1) := by decide +kernel
theorem dX0_levelIn_11 : decode t_X0_levelIn.2.1 11 = .ok (.invokevirtual 64, 3) := by decide +kernel
theorem iX0_levelIn_11 : wm_iv t_X0_levelIn t_X0_lastStart 11 := ⟨64, wd_585, dX0_levelIn_11⟩
theorem dX0_levelIn_14 : decode t_X0_levelIn.2.1 14 = .ok (.if_icmp .gt 27, 3) := by decide +kernel
theorem dX0_levelIn_17 : decode t_X0_levelIn.2.1 17 = .ok (.iload 5, 2) := by decide +kernel
theorem dX0_levelIn_19 : decode t_X0_levelIn.2.1 19 = .ok (.aload_n 0, 1) := by decide +kernel
theorem dX0_levelIn_20 : decode t_X0_levelIn.2.1 20 = .ok (.iload_n 1, 1) := by decide +kernel
theorem dX0_levelIn_21 : decode t_X0_levelIn.2.1 21 = .ok (.iload_n 2, 1) := by decide +kernel
theorem dX0_levelIn_22 : decode t_X0_levelIn.2.1 22 = .ok (.iload_n 3, 1) := by decide +kernel
theorem dX0_levelIn_23 : decode t_X0_levelIn.2.1 23 = .ok (.iload 4, 2) := by decide +kernel
theorem dX0_levelIn_25 : decode t_X0_levelIn.2.1 25 = .ok (.iload 6, 2) := by decide +kernel
theorem dX0_levelIn_27 : decode t_X0_levelIn.2.1 27 = .ok (.invokevirtual 101, 3) := by decide +kernel
theorem wd_715 : Cond.methodLink RX0 101 yX0_levelAt ∈ lw_gd := List.mem_filter.mpr ⟨List.mem_of_getElem? (i := 715) (by decide +kernel), by decide +kernel⟩
theorem iX0_levelIn_27 : wm_iv t_X0_levelIn t_X0_levelAt 27 := ⟨101, wd_715, dX0_levelIn_27⟩
theorem dX0_levelIn_30 : decode t_X0_levelIn.2.1 30 = .ok (.invokestatic 96, 3) := by decide +kernel
theorem iX0_levelIn_30 : wm_ij t_X0_levelIn Lib.Math.max.name 30 := ⟨96, wd_728, dX0_levelIn_30⟩
theorem dX0_levelIn_33 : decode t_X0_levelIn.2.1 33 = .ok (.istore 5, 2) := by decide +kernel
theorem dX0_levelIn_35 : decode t_X0_levelIn.2.1 35 = .ok (.iinc 6 1, 3) := by decide +kernel
theorem dX0_levelIn_38 : decode t_X0_levelIn.2.1 38 = .ok (.goto (-32), 3) := by decide +kernel
theorem dX0_levelIn_41 : decode t_X0_levelIn.2.1 41 = .ok (.iload 5, 2) := by decide +kernel
theorem dX0_levelIn_43 : decode t_X0_levelIn.2.1 43 = .ok (.ireturn, 1) := by decide +kernel
theorem wd_718 : Cond.code yX0_levelAt cX0_levelAt 10 (some .int) ∈ lw_gd := List.mem_filter.mpr ⟨List.mem_of_getElem? (i := 718) (by decide +kernel), by decide +kernel⟩
theorem wd_717 : Cond.instanceMethod yX0_levelAt ∈ lw_gd := List.mem_filter.mpr ⟨List.mem_of_getElem? (i := 717) (by decide +kernel), by decide +kernel⟩
theorem wd_18 : Cond.selects RX0 yX0_levelAt yX0_levelAt ∈ lw_gd := List.mem_filter.mpr ⟨List.mem_of_getElem? (i := 18) (by decide +kernel), by decide +kernel⟩
theorem vX0_levelAt : wm_calV t_X0_levelAt 5 := ⟨⟨wd_718, wd_82, by decide +kernel, by decide +kernel, by decide +kernel⟩, wd_717, wd_18⟩
theorem dX0_levelAt_0 : decode t_X0_levelAt.2.1 0 = .ok (.iconst 3, 1) := by decide +kernel
theorem dX0_levelAt_1 : decode t_X0_levelAt.2.1 1 = .ok (.istore 6, 2) := by decide +kernel
theorem dX0_levelAt_3 : decode t_X0_levelAt.2.1 3 = .ok (.iconst 0, 1) := by decide +kernel
theorem dX0_levelAt_4 : decode t_X0_levelAt.2.1 4 = .ok (.istore 7, 2) := by decide +kernel
theorem dX0_levelAt_6 : decode t_X0_levelAt.2.1 6 = .ok (.iload 7, 2) := by decide +kernel
theorem dX0_levelAt_8 : decode t_X0_levelAt.2.1 8 = .ok (.aload_n 0, 1) := by decide +kernel
theorem dX0_levelAt_9 : decode t_X0_levelAt.2.1 9 = .ok (.getfield 14, 3) := by decide +kernel
theorem gX0_levelAt_9 : wm_gf t_X0_levelAt 9 0 0 := ⟨_, _, _, 14, rfl, by decide, wd_204, dX0_levelAt_9⟩
theorem dX0_levelAt_12 : decode t_X0_levelAt.2.1 12 = .ok (.iload_n 1, 1) := by decide +kernel
theorem dX0_levelAt_13 : decode t_X0_levelAt.2.1 13 = .ok (.invokevirtual 71, 3) := by decide +kernel
theorem iX0_levelAt_13 : wm_iv t_X0_levelAt t_X5_size 13 := ⟨71, wd_593, dX0_levelAt_13⟩
theorem dX0_levelAt_16 : decode t_X0_levelAt.2.1 16 = .ok (.if_icmp .ge 66, 3) := by decide +kernel
theorem dX0_levelAt_19 : decode t_X0_levelAt.2.1 19 = .ok (.aload_n 0, 1) := by decide +kernel
theorem dX0_levelAt_20 : decode t_X0_levelAt.2.1 20 = .ok (.getfield 34, 3) := by decide +kernel
theorem gX0_levelAt_20 : wm_gf t_X0_levelAt 20 0 3 := ⟨_, _, _, 34, rfl, by decide, wd_211, dX0_levelAt_20⟩
theorem dX0_levelAt_23 : decode t_X0_levelAt.2.1 23 = .ok (.iload_n 3, 1) := by decide +kernel
theorem dX0_levelAt_24 : decode t_X0_levelAt.2.1 24 = .ok (.iload 4, 2) := by decide +kernel
theorem dX0_levelAt_26 : decode t_X0_levelAt.2.1 26 = .ok (.iload 5, 2) := by decide +kernel
theorem dX0_levelAt_28 : decode t_X0_levelAt.2.1 28 = .ok (.iload 7, 2) := by decide +kernel
theorem dX0_levelAt_30 : decode t_X0_levelAt.2.1 30 = .ok (.iadd, 1) := by decide +kernel
theorem dX0_levelAt_31 : decode t_X0_levelAt.2.1 31 = .ok (.invokevirtual 75, 3) := by decide +kernel
theorem iX0_levelAt_31 : wm_iv t_X0_levelAt t_X4_stoneAt 31 := ⟨75, wd_608, dX0_levelAt_31⟩
theorem dX0_levelAt_34 : decode t_X0_levelAt.2.1 34 = .ok (.istore 8, 2) := by decide +kernel
theorem dX0_levelAt_36 : decode t_X0_levelAt.2.1 36 = .ok (.aload_n 0, 1) := by decide +kernel
theorem dX0_levelAt_37 : decode t_X0_levelAt.2.1 37 = .ok (.getfield 34, 3) := by decide +kernel
theorem gX0_levelAt_37 : wm_gf t_X0_levelAt 37 0 3 := ⟨_, _, _, 34, rfl, by decide, wd_211, dX0_levelAt_37⟩
theorem dX0_levelAt_40 : decode t_X0_levelAt.2.1 40 = .ok (.iload_n 2, 1) := by decide +kernel
theorem dX0_levelAt_41 : decode t_X0_levelAt.2.1 41 = .ok (.iload 8, 2) := by decide +kernel
theorem dX0_levelAt_43 : decode t_X0_levelAt.2.1 43 = .ok (.iload_n 3, 1) := by decide +kernel
theorem dX0_levelAt_44 : decode t_X0_levelAt.2.1 44 = .ok (.iload 4, 2) := by decide +kernel
theorem dX0_levelAt_46 : decode t_X0_levelAt.2.1 46 = .ok (.invokevirtual 105, 3) := by decide +kernel
theorem wd_719 : Cond.methodLink RX0 105 yX4_sideRead ∈ lw_gd := List.mem_filter.mpr ⟨List.mem_of_getElem? (i := 719) (by decide +kernel), by decide +kernel⟩
theorem iX0_levelAt_46 : wm_iv t_X0_levelAt t_X4_sideRead 46 := ⟨105, wd_719, dX0_levelAt_46⟩
theorem dX0_levelAt_49 : decode t_X0_levelAt.2.1 49 = .ok (.istore 9, 2) := by decide +kernel
theorem dX0_levelAt_51 : decode t_X0_levelAt.2.1 51 = .ok (.iload 6, 2) := by decide +kernel
theorem dX0_levelAt_53 : decode t_X0_levelAt.2.1 53 = .ok (.aload_n 0, 1) := by decide +kernel
theorem dX0_levelAt_54 : decode t_X0_levelAt.2.1 54 = .ok (.iload 8, 2) := by decide +kernel
theorem dX0_levelAt_56 : decode t_X0_levelAt.2.1 56 = .ok (.iload 9, 2) := by decide +kernel
theorem dX0_levelAt_58 : decode t_X0_levelAt.2.1 58 = .ok (.aload_n 0, 1) := by decide +kernel
theorem dX0_levelAt_59 : decode t_X0_levelAt.2.1 59 = .ok (.getfield 14, 3) := by decide +kernel
theorem gX0_levelAt_59 : wm_gf t_X0_levelAt 59 0 0 := ⟨_, _, _, 14, rfl, by decide, wd_204, dX0_levelAt_59⟩
theorem dX0_levelAt_62 : decode t_X0_levelAt.2.1 62 = .ok (.iload_n 1, 1) := by decide +kernel
theorem dX0_levelAt_63 : decode t_X0_levelAt.2.1 63 = .ok (.iload 7, 2) := by decide +kernel
theorem dX0_levelAt_65 : decode t_X0_levelAt.2.1 65 = .ok (.invokevirtual 79, 3) := by decide +kernel
theorem iX0_levelAt_65 : wm_iv t_X0_levelAt t_X5_get 65 := ⟨79, wd_613, dX0_levelAt_65⟩
theorem dX0_levelAt_68 : decode t_X0_levelAt.2.1 68 = .ok (.invokevirtual 108, 3) := by decide +kernel
theorem wd_720 : Cond.methodLink RX0 108 yX0_wordLevel ∈ lw_gd := List.mem_filter.mpr ⟨List.mem_of_getElem? (i := 720) (by decide +kernel), by decide +kernel⟩
theorem iX0_levelAt_68 : wm_iv t_X0_levelAt t_X0_wordLevel 68 := ⟨108, wd_720, dX0_levelAt_68⟩
theorem dX0_levelAt_71 : decode t_X0_levelAt.2.1 71 = .ok (.invokestatic 111, 3) := by decide +kernel
theorem wd_725 : Cond.methodLink RX0 111 Lib.Math.min.name ∈ lw_gd := List.mem_filter.mpr ⟨List.mem_of_getElem? (i := 725) (by decide +kernel), by decide +kernel⟩
theorem iX0_levelAt_71 : wm_ij t_X0_levelAt Lib.Math.min.name 71 := ⟨111, wd_725, dX0_levelAt_71⟩
theorem dX0_levelAt_74 : decode t_X0_levelAt.2.1 74 = .ok (.istore 6, 2) := by decide +kernel
theorem dX0_levelAt_76 : decode t_X0_levelAt.2.1 76 = .ok (.iinc 7 1, 3) := by decide +kernel
theorem dX0_levelAt_79 : decode t_X0_levelAt.2.1 79 = .ok (.goto (-73), 3) := by decide +kernel
theorem dX0_levelAt_82 : decode t_X0_levelAt.2.1 82 = .ok (.iload 6, 2) := by decide +kernel
theorem dX0_levelAt_84 : decode t_X0_levelAt.2.1 84 = .ok (.ireturn, 1) := by decide +kernel
theorem wd_723 : Cond.code yX0_wordLevel cX0_wordLevel 5 (some .int) ∈ lw_gd := List.mem_filter.mpr ⟨List.mem_of_getElem? (i := 723) (by decide +kernel), by decide +kernel⟩
theorem wd_722 : Cond.instanceMethod yX0_wordLevel ∈ lw_gd := List.mem_filter.mpr ⟨List.mem_of_getElem? (i := 722) (by decide +kernel), by decide +kernel⟩
theorem wd_19 : Cond.selects RX0 yX0_wordLevel yX0_wordLevel ∈ lw_gd := List.mem_filter.mpr ⟨List.mem_of_getElem? (i := 19) (by decide +kernel), by decide +kernel⟩
theorem vX0_wordLevel : wm_calV t_X0_wordLevel 3 := ⟨⟨wd_723, wd_82, by decide +kernel, by decide +kernel, by decide +kernel⟩, wd_722, wd_19⟩
theorem dX0_wordLevel_0 : decode t_X0_wordLevel.2.1 0 = .ok (.aload_n 0, 1) := by decide +kernel
theorem dX0_wordLevel_1 : decode t_X0_wordLevel.2.1 1 = .ok (.getfield 34, 3) := by decide +kernel
theorem gX0_wordLevel_1 : wm_gf t_X0_wordLevel 1 0 3 := ⟨_, _, _, 34, rfl, by decide, wd_211, dX0_wordLevel_1⟩
theorem dX0_wordLevel_4 : decode t_X0_wordLevel.2.1 4 = .ok (.getfield 114, 3) := by decide +kernel
theorem wd_144 : Cond.fieldLink RX0 114 "TurnedStones$Stones" "sides" "[I" ∈ lw_gd := List.mem_filter.mpr ⟨List.mem_of_getElem? (i := 144) (by decide +kernel), by decide +kernel⟩
theorem gX0_wordLevel_4 : wm_gf t_X0_wordLevel 4 4 4 := ⟨_, _, _, 114, rfl, by decide, wd_144, dX0_wordLevel_4⟩
theorem dX0_wordLevel_7 : decode t_X0_wordLevel.2.1 7 = .ok (.iload_n 1, 1) := by decide +kernel
theorem dX0_wordLevel_8 : decode t_X0_wordLevel.2.1 8 = .ok (.iaload, 1) := by decide +kernel
theorem dX0_wordLevel_9 : decode t_X0_wordLevel.2.1 9 = .ok (.iload_n 2, 1) := by decide +kernel
theorem dX0_wordLevel_10 : decode t_X0_wordLevel.2.1 10 = .ok (.if_icmp .ne 7, 3) := by decide +kernel
theorem dX0_wordLevel_13 : decode t_X0_wordLevel.2.1 13 = .ok (.iconst 1, 1) := by decide +kernel
theorem dX0_wordLevel_14 : decode t_X0_wordLevel.2.1 14 = .ok (.goto 4, 3) := by decide +kernel
theorem dX0_wordLevel_17 : decode t_X0_wordLevel.2.1 17 = .ok (.iconst 0, 1) := by decide +kernel
theorem dX0_wordLevel_18 : decode t_X0_wordLevel.2.1 18 = .ok (.istore 4, 2) := by decide +kernel
theorem dX0_wordLevel_20 : decode t_X0_wordLevel.2.1 20 = .ok (.aload_n 0, 1) := by decide +kernel
theorem dX0_wordLevel_21 : decode t_X0_wordLevel.2.1 21 = .ok (.getfield 34, 3) := by decide +kernel
theorem gX0_wordLevel_21 : wm_gf t_X0_wordLevel 21 0 3 := ⟨_, _, _, 34, rfl, by decide, wd_211, dX0_wordLevel_21⟩
theorem dX0_wordLevel_24 : decode t_X0_wordLevel.2.1 24 = .ok (.iload_n 1, 1) := by decide +kernel
theorem dX0_wordLevel_25 : decode t_X0_wordLevel.2.1 25 = .ok (.iload_n 2, 1) := by decide +kernel
theorem dX0_wordLevel_26 : decode t_X0_wordLevel.2.1 26 = .ok (.invokevirtual 117, 3) := by decide +kernel
theorem wd_724 : Cond.methodLink RX0 117 yX4_shown ∈ lw_gd := List.mem_filter.mpr ⟨List.mem_of_getElem? (i := 724) (by decide +kernel), by decide +kernel⟩
theorem iX0_wordLevel_26 : wm_iv t_X0_wordLevel t_X4_shown 26 := ⟨117, wd_724, dX0_wordLevel_26⟩
theorem dX0_wordLevel_29 : decode t_X0_wordLevel.2.1 29 = .ok (.iload_n 3, 1) := by decide +kernel
theorem dX0_wordLevel_30 : decode t_X0_wordLevel.2.1 30 = .ok (.if_icmp .ne 14, 3) := by decide +kernel
theorem dX0_wordLevel_33 : decode t_X0_wordLevel.2.1 33 = .ok (.iload 4, 2) := by decide +kernel
theorem dX0_wordLevel_35 : decode t_X0_wordLevel.2.1 35 = .ok (.ifCond .eq 7, 3) := by decide +kernel
theorem dX0_wordLevel_38 : decode t_X0_wordLevel.2.1 38 = .ok (.iconst 2, 1) := by decide +kernel
theorem dX0_wordLevel_39 : decode t_X0_wordLevel.2.1 39 = .ok (.goto 4, 3) := by decide +kernel
theorem dX0_wordLevel_42 : decode t_X0_wordLevel.2.1 42 = .ok (.iconst 3, 1) := by decide +kernel
theorem dX0_wordLevel_43 : decode t_X0_wordLevel.2.1 43 = .ok (.ireturn, 1) := by decide +kernel
theorem dX0_wordLevel_44 : decode t_X0_wordLevel.2.1 44 = .ok (.iload 4, 2) := by decide +kernel
theorem dX0_wordLevel_46 : decode t_X0_wordLevel.2.1 46 = .ok (.ifCond .eq 33, 3) := by decide +kernel
theorem dX0_wordLevel_49 : decode t_X0_wordLevel.2.1 49 = .ok (.aload_n 0, 1) := by decide +kernel
theorem dX0_wordLevel_50 : decode t_X0_wordLevel.2.1 50 = .ok (.getfield 34, 3) := by decide +kernel
theorem gX0_wordLevel_50 : wm_gf t_X0_wordLevel 50 0 3 := ⟨_, _, _, 34, rfl, by decide, wd_211, dX0_wordLevel_50⟩
theorem dX0_wordLevel_53 : decode t_X0_wordLevel.2.1 53 = .ok (.getfield 120, 3) := by decide +kernel
theorem wd_136 : Cond.fieldLink RX0 120 "TurnedStones$Stones" "kinds" "[I" ∈ lw_gd := List.mem_filter.mpr ⟨List.mem_of_getElem? (i := 136) (by decide +kernel), by decide +kernel⟩
theorem gX0_wordLevel_53 : wm_gf t_X0_wordLevel 53 4 2 := ⟨_, _, _, 120, rfl, by decide, wd_136, dX0_wordLevel_53⟩
theorem dX0_wordLevel_56 : decode t_X0_wordLevel.2.1 56 = .ok (.iload_n 1, 1) := by decide +kernel
theorem dX0_wordLevel_57 : decode t_X0_wordLevel.2.1 57 = .ok (.iaload, 1) := by decide +kernel
theorem dX0_wordLevel_58 : decode t_X0_wordLevel.2.1 58 = .ok (.iconst 1, 1) := by decide +kernel
theorem dX0_wordLevel_59 : decode t_X0_wordLevel.2.1 59 = .ok (.if_icmp .ne 20, 3) := by decide +kernel
theorem dX0_wordLevel_62 : decode t_X0_wordLevel.2.1 62 = .ok (.aload_n 0, 1) := by decide +kernel
theorem dX0_wordLevel_63 : decode t_X0_wordLevel.2.1 63 = .ok (.getfield 34, 3) := by decide +kernel
theorem gX0_wordLevel_63 : wm_gf t_X0_wordLevel 63 0 3 := ⟨_, _, _, 34, rfl, by decide, wd_211, dX0_wordLevel_63⟩
theorem dX0_wordLevel_66 : decode t_X0_wordLevel.2.1 66 = .ok (.getfield 123, 3) := by decide +kernel
theorem wd_148 : Cond.fieldLink RX0 123 "TurnedStones$Stones" "others" "[I" ∈ lw_gd := List.mem_filter.mpr ⟨List.mem_of_getElem? (i := 148) (by decide +kernel), by decide +kernel⟩
theorem gX0_wordLevel_66 : wm_gf t_X0_wordLevel 66 4 5 := ⟨_, _, _, 123, rfl, by decide, wd_148, dX0_wordLevel_66⟩
theorem dX0_wordLevel_69 : decode t_X0_wordLevel.2.1 69 = .ok (.iload_n 1, 1) := by decide +kernel
theorem dX0_wordLevel_70 : decode t_X0_wordLevel.2.1 70 = .ok (.iaload, 1) := by decide +kernel
theorem dX0_wordLevel_71 : decode t_X0_wordLevel.2.1 71 = .ok (.iload_n 3, 1) := by decide +kernel
theorem dX0_wordLevel_72 : decode t_X0_wordLevel.2.1 72 = .ok (.if_icmp .ne 7, 3) := by decide +kernel
theorem dX0_wordLevel_75 : decode t_X0_wordLevel.2.1 75 = .ok (.iconst 1, 1) := by decide +kernel
theorem dX0_wordLevel_76 : decode t_X0_wordLevel.2.1 76 = .ok (.goto 4, 3) := by decide +kernel
theorem dX0_wordLevel_79 : decode t_X0_wordLevel.2.1 79 = .ok (.iconst 0, 1) := by decide +kernel
theorem dX0_wordLevel_80 : decode t_X0_wordLevel.2.1 80 = .ok (.ireturn, 1) := by decide +kernel
theorem wd_886 : Cond.code yX0_leastYears cX0_leastYears 8 (some .int) ∈ lw_gd := List.mem_filter.mpr ⟨List.mem_of_getElem? (i := 886) (by decide +kernel), by decide +kernel⟩
theorem wd_884 : Cond.instanceMethod yX0_leastYears ∈ lw_gd := List.mem_filter.mpr ⟨List.mem_of_getElem? (i := 884) (by decide +kernel), by decide +kernel⟩
theorem wd_885 : Cond.selects RX0 yX0_leastYears yX0_leastYears ∈ lw_gd := List.mem_filter.mpr ⟨List.mem_of_getElem? (i := 885) (by decide +kernel), by decide +kernel⟩
theorem vX0_leastYears : wm_calV t_X0_leastYears 2 := ⟨⟨wd_886, wd_82, by decide +kernel, by decide +kernel, by decide +kernel⟩, wd_884, wd_885⟩
theorem dX0_leastYears_0 : decode t_X0_leastYears.2.1 0 = .ok (.bipush (-9), 2) := by decide +kernel
theorem dX0_leastYears_2 : decode t_X0_leastYears.2.1 2 = .ok (.istore_n 3, 1) := by decide +kernel
theorem dX0_leastYears_3 : decode t_X0_leastYears.2.1 3 = .ok (.iconst 0, 1) := by decide +kernel
theorem dX0_leastYears_4 : decode t_X0_leastYears.2.1 4 = .ok (.istore 4, 2) := by decide +kernel
theorem dX0_leastYears_6 : decode t_X0_leastYears.2.1 6 = .ok (.iload 4, 2) := by decide +kernel
theorem dX0_leastYears_8 : decode t_X0_leastYears.2.1 8 = .ok (.aload_n 0, 1) := by decide +kernel
theorem dX0_leastYears_9 : decode t_X0_leastYears.2.1 9 = .ok (.getfield 34, 3) := by decide +kernel
theorem gX0_leastYears_9 : wm_gf t_X0_leastYears 9 0 3 := ⟨_, _, _, 34, rfl, by decide, wd_211, dX0_leastYears_9⟩
theorem dX0_leastYears_12 : decode t_X0_leastYears.2.1 12 = .ok (.invokevirtual 50, 3) := by decide +kernel
theorem iX0_leastYears_12 : wm_iv t_X0_leastYears t_X4_streets 12 := ⟨50, wd_573, dX0_leastYears_12⟩
theorem dX0_leastYears_15 : decode t_X0_leastYears.2.1 15 = .ok (.if_icmp .ge 81, 3) := by decide +kernel
theorem dX0_leastYears_18 : decode t_X0_leastYears.2.1 18 = .ok (.iconst 0, 1) := by decide +kernel
theorem dX0_leastYears_19 : decode t_X0_leastYears.2.1 19 = .ok (.istore 5, 2) := by decide +kernel
theorem dX0_leastYears_21 : decode t_X0_leastYears.2.1 21 = .ok (.iload 5, 2) := by decide +kernel
theorem dX0_leastYears_23 : decode t_X0_leastYears.2.1 23 = .ok (.iconst 2, 1) := by decide +kernel
theorem dX0_leastYears_24 : decode t_X0_leastYears.2.1 24 = .ok (.if_icmp .ge 66, 3) := by decide +kernel
theorem dX0_leastYears_27 : decode t_X0_leastYears.2.1 27 = .ok (.iconst 0, 1) := by decide +kernel
theorem dX0_leastYears_28 : decode t_X0_leastYears.2.1 28 = .ok (.istore 6, 2) := by decide +kernel
theorem dX0_leastYears_30 : decode t_X0_leastYears.2.1 30 = .ok (.iload 6, 2) := by decide +kernel
theorem dX0_leastYears_32 : decode t_X0_leastYears.2.1 32 = .ok (.aload_n 0, 1) := by decide +kernel
theorem dX0_leastYears_33 : decode t_X0_leastYears.2.1 33 = .ok (.iload_n 1, 1) := by decide +kernel
theorem dX0_leastYears_34 : decode t_X0_leastYears.2.1 34 = .ok (.iload 4, 2) := by decide +kernel
theorem dX0_leastYears_36 : decode t_X0_leastYears.2.1 36 = .ok (.invokevirtual 64, 3) := by decide +kernel
theorem iX0_leastYears_36 : wm_iv t_X0_leastYears t_X0_lastStart 36 := ⟨64, wd_585, dX0_leastYears_36⟩
theorem dX0_leastYears_39 : decode t_X0_leastYears.2.1 39 = .ok (.if_icmp .gt 45, 3) := by decide +kernel
theorem dX0_leastYears_42 : decode t_X0_leastYears.2.1 42 = .ok (.aload_n 0, 1) := by decide +kernel
theorem dX0_leastYears_43 : decode t_X0_leastYears.2.1 43 = .ok (.iload_n 1, 1) := by decide +kernel
theorem dX0_leastYears_44 : decode t_X0_leastYears.2.1 44 = .ok (.iload_n 2, 1) := by decide +kernel
theorem dX0_leastYears_45 : decode t_X0_leastYears.2.1 45 = .ok (.iload 4, 2) := by decide +kernel
theorem dX0_leastYears_47 : decode t_X0_leastYears.2.1 47 = .ok (.iload 5, 2) := by decide +kernel
theorem dX0_leastYears_49 : decode t_X0_leastYears.2.1 49 = .ok (.iload 6, 2) := by decide +kernel
theorem dX0_leastYears_51 : decode t_X0_leastYears.2.1 51 = .ok (.invokevirtual 126, 3) := by decide +kernel
theorem wd_887 : Cond.methodLink RX0 126 yX0_turnsAt ∈ lw_gd := List.mem_filter.mpr ⟨List.mem_of_getElem? (i := 887) (by decide +kernel), by decide +kernel⟩
theorem iX0_leastYears_51 : wm_iv t_X0_leastYears t_X0_turnsAt 51 := ⟨126, wd_887, dX0_leastYears_51⟩
theorem dX0_leastYears_54 : decode t_X0_leastYears.2.1 54 = .ok (.istore 7, 2) := by decide +kernel
theorem dX0_leastYears_56 : decode t_X0_leastYears.2.1 56 = .ok (.iload 7, 2) := by decide +kernel
theorem dX0_leastYears_58 : decode t_X0_leastYears.2.1 58 = .ok (.bipush (-9), 2) := by decide +kernel
theorem dX0_leastYears_60 : decode t_X0_leastYears.2.1 60 = .ok (.if_icmp .eq 18, 3) := by decide +kernel
theorem dX0_leastYears_63 : decode t_X0_leastYears.2.1 63 = .ok (.iload_n 3, 1) := by decide +kernel
theorem dX0_leastYears_64 : decode t_X0_leastYears.2.1 64 = .ok (.bipush (-9), 2) := by decide +kernel
theorem dX0_leastYears_66 : decode t_X0_leastYears.2.1 66 = .ok (.if_icmp .eq 9, 3) := by decide +kernel
theorem dX0_leastYears_69 : decode t_X0_leastYears.2.1 69 = .ok (.iload 7, 2) := by decide +kernel
theorem dX0_leastYears_71 : decode t_X0_leastYears.2.1 71 = .ok (.iload_n 3, 1) := by decide +kernel
theorem dX0_leastYears_72 : decode t_X0_leastYears.2.1 72 = .ok (.if_icmp .ge 6, 3) := by decide +kernel
theorem dX0_leastYears_75 : decode t_X0_leastYears.2.1 75 = .ok (.iload 7, 2) := by decide +kernel
theorem dX0_leastYears_77 : decode t_X0_leastYears.2.1 77 = .ok (.istore_n 3, 1) := by decide +kernel
theorem dX0_leastYears_78 : decode t_X0_leastYears.2.1 78 = .ok (.iinc 6 1, 3) := by decide +kernel
theorem dX0_leastYears_81 : decode t_X0_leastYears.2.1 81 = .ok (.goto (-51), 3) := by decide +kernel
theorem dX0_leastYears_84 : decode t_X0_leastYears.2.1 84 = .ok (.iinc 5 1, 3) := by decide +kernel
theorem dX0_leastYears_87 : decode t_X0_leastYears.2.1 87 = .ok (.goto (-66), 3) := by decide +kernel
theorem dX0_leastYears_90 : decode t_X0_leastYears.2.1 90 = .ok (.iinc 4 1, 3) := by decide +kernel
theorem dX0_leastYears_93 : decode t_X0_leastYears.2.1 93 = .ok (.goto (-87), 3) := by decide +kernel
theorem dX0_leastYears_96 : decode t_X0_leastYears.2.1 96 = .ok (.iload_n 3, 1) := by decide +kernel
theorem dX0_leastYears_97 : decode t_X0_leastYears.2.1 97 = .ok (.ireturn, 1) := by decide +kernel
theorem wd_890 : Cond.code yX0_turnsAt cX0_turnsAt 10 (some .int) ∈ lw_gd := List.mem_filter.mpr ⟨List.mem_of_getElem? (i := 890) (by decide +kernel), by decide +kernel⟩
theorem wd_889 : Cond.instanceMethod yX0_turnsAt ∈ lw_gd := List.mem_filter.mpr ⟨List.mem_of_getElem? (i := 889) (by decide +kernel), by decide +kernel⟩
theorem wd_23 : Cond.selects RX0 yX0_turnsAt yX0_turnsAt ∈ lw_gd := List.mem_filter.mpr ⟨List.mem_of_getElem? (i := 23) (by decide +kernel), by decide +kernel⟩
theorem vX0_turnsAt : wm_calV t_X0_turnsAt 5 := ⟨⟨wd_890, wd_82, by decide +kernel, by decide +kernel, by decide +kernel⟩, wd_889, wd_23⟩
theorem dX0_turnsAt_0 : decode t_X0_turnsAt.2.1 0 = .ok (.iconst 0, 1) := by decide +kernel
theorem dX0_turnsAt_1 : decode t_X0_turnsAt.2.1 1 = .ok (.istore 6, 2) := by decide +kernel
theorem dX0_turnsAt_3 : decode t_X0_turnsAt.2.1 3 = .ok (.iconst 0, 1) := by decide +kernel
theorem dX0_turnsAt_4 : decode t_X0_turnsAt.2.1 4 = .ok (.istore 7, 2) := by decide +kernel
theorem dX0_turnsAt_6 : decode t_X0_turnsAt.2.1 6 = .ok (.iload 7, 2) := by decide +kernel
theorem dX0_turnsAt_8 : decode t_X0_turnsAt.2.1 8 = .ok (.aload_n 0, 1) := by decide +kernel
theorem dX0_turnsAt_9 : decode t_X0_turnsAt.2.1 9 = .ok (.getfield 14, 3) := by decide +kernel
theorem gX0_turnsAt_9 : wm_gf t_X0_turnsAt 9 0 0 := ⟨_, _, _, 14, rfl, by decide, wd_204, dX0_turnsAt_9⟩
theorem dX0_turnsAt_12 : decode t_X0_turnsAt.2.1 12 = .ok (.iload_n 1, 1) := by decide +kernel
theorem dX0_turnsAt_13 : decode t_X0_turnsAt.2.1 13 = .ok (.invokevirtual 71, 3) := by decide +kernel
theorem iX0_turnsAt_13 : wm_iv t_X0_turnsAt t_X5_size 13 := ⟨71, wd_593, dX0_turnsAt_13⟩
theorem dX0_turnsAt_16 : decode t_X0_turnsAt.2.1 16 = .ok (.if_icmp .ge 77, 3) := by decide +kernel
theorem dX0_turnsAt_19 : decode t_X0_turnsAt.2.1 19 = .ok (.aload_n 0, 1) := by decide +kernel
theorem dX0_turnsAt_20 : decode t_X0_turnsAt.2.1 20 = .ok (.getfield 34, 3) := by decide +kernel
theorem gX0_turnsAt_20 : wm_gf t_X0_turnsAt 20 0 3 := ⟨_, _, _, 34, rfl, by decide, wd_211, dX0_turnsAt_20⟩
theorem dX0_turnsAt_23 : decode t_X0_turnsAt.2.1 23 = .ok (.iload_n 3, 1) := by decide +kernel
theorem dX0_turnsAt_24 : decode t_X0_turnsAt.2.1 24 = .ok (.iload 4, 2) := by decide +kernel
theorem dX0_turnsAt_26 : decode t_X0_turnsAt.2.1 26 = .ok (.iload 5, 2) := by decide +kernel
theorem dX0_turnsAt_28 : decode t_X0_turnsAt.2.1 28 = .ok (.iload 7, 2) := by decide +kernel
theorem dX0_turnsAt_30 : decode t_X0_turnsAt.2.1 30 = .ok (.iadd, 1) := by decide +kernel
theorem dX0_turnsAt_31 : decode t_X0_turnsAt.2.1 31 = .ok (.invokevirtual 75, 3) := by decide +kernel
theorem iX0_turnsAt_31 : wm_iv t_X0_turnsAt t_X4_stoneAt 31 := ⟨75, wd_608, dX0_turnsAt_31⟩
theorem dX0_turnsAt_34 : decode t_X0_turnsAt.2.1 34 = .ok (.istore 8, 2) := by decide +kernel
theorem dX0_turnsAt_36 : decode t_X0_turnsAt.2.1 36 = .ok (.aload_n 0, 1) := by decide +kernel
theorem dX0_turnsAt_37 : decode t_X0_turnsAt.2.1 37 = .ok (.getfield 34, 3) := by decide +kernel
theorem gX0_turnsAt_37 : wm_gf t_X0_turnsAt 37 0 3 := ⟨_, _, _, 34, rfl, by decide, wd_211, dX0_turnsAt_37⟩
theorem dX0_turnsAt_40 : decode t_X0_turnsAt.2.1 40 = .ok (.iload 8, 2) := by decide +kernel
theorem dX0_turnsAt_42 : decode t_X0_turnsAt.2.1 42 = .ok (.aload_n 0, 1) := by decide +kernel
theorem dX0_turnsAt_43 : decode t_X0_turnsAt.2.1 43 = .ok (.getfield 34, 3) := by decide +kernel
theorem gX0_turnsAt_43 : wm_gf t_X0_turnsAt 43 0 3 := ⟨_, _, _, 34, rfl, by decide, wd_211, dX0_turnsAt_43⟩
theorem dX0_turnsAt_46 : decode t_X0_turnsAt.2.1 46 = .ok (.iload_n 2, 1) := by decide +kernel
theorem dX0_turnsAt_47 : decode t_X0_turnsAt.2.1 47 = .ok (.iload 8, 2) := by decide +kernel
theorem dX0_turnsAt_49 : decode t_X0_turnsAt.2.1 49 = .ok (.iload_n 3, 1) := by decide +kernel
theorem dX0_turnsAt_50 : decode t_X0_turnsAt.2.1 50 = .ok (.iload 4, 2) := by decide +kernel
theorem dX0_turnsAt_52 : decode t_X0_turnsAt.2.1 52 = .ok (.invokevirtual 105, 3) := by decide +kernel
theorem iX0_turnsAt_52 : wm_iv t_X0_turnsAt t_X4_sideRead 52 := ⟨105, wd_719, dX0_turnsAt_52⟩
theorem dX0_turnsAt_55 : decode t_X0_turnsAt.2.1 55 = .ok (.aload_n 0, 1) := by decide +kernel
theorem dX0_turnsAt_56 : decode t_X0_turnsAt.2.1 56 = .ok (.getfield 14, 3) := by decide +kernel
theorem gX0_turnsAt_56 : wm_gf t_X0_turnsAt 56 0 0 := ⟨_, _, _, 14, rfl, by decide, wd_204, dX0_turnsAt_56⟩
theorem dX0_turnsAt_59 : decode t_X0_turnsAt.2.1 59 = .ok (.iload_n 1, 1) := by decide +kernel
theorem dX0_turnsAt_60 : decode t_X0_turnsAt.2.1 60 = .ok (.iload 7, 2) := by decide +kernel
theorem dX0_turnsAt_62 : decode t_X0_turnsAt.2.1 62 = .ok (.invokevirtual 79, 3) := by decide +kernel
theorem iX0_turnsAt_62 : wm_iv t_X0_turnsAt t_X5_get 62 := ⟨79, wd_613, dX0_turnsAt_62⟩
theorem dX0_turnsAt_65 : decode t_X0_turnsAt.2.1 65 = .ok (.invokevirtual 129, 3) := by decide +kernel
theorem wd_891 : Cond.methodLink RX0 129 yX4_turnsTo ∈ lw_gd := List.mem_filter.mpr ⟨List.mem_of_getElem? (i := 891) (by decide +kernel), by decide +kernel⟩
theorem iX0_turnsAt_65 : wm_iv t_X0_turnsAt t_X4_turnsTo 65 := ⟨129, wd_891, dX0_turnsAt_65⟩
theorem dX0_turnsAt_68 : decode t_X0_turnsAt.2.1 68 = .ok (.istore 9, 2) := by decide +kernel
theorem dX0_turnsAt_70 : decode t_X0_turnsAt.2.1 70 = .ok (.iload 9, 2) := by decide +kernel
theorem dX0_turnsAt_72 : decode t_X0_turnsAt.2.1 72 = .ok (.bipush (-9), 2) := by decide +kernel
theorem dX0_turnsAt_74 : decode t_X0_turnsAt.2.1 74 = .ok (.if_icmp .ne 6, 3) := by decide +kernel
theorem dX0_turnsAt_77 : decode t_X0_turnsAt.2.1 77 = .ok (.bipush (-9), 2) := by decide +kernel
theorem dX0_turnsAt_79 : decode t_X0_turnsAt.2.1 79 = .ok (.ireturn, 1) := by decide +kernel
theorem dX0_turnsAt_80 : decode t_X0_turnsAt.2.1 80 = .ok (.iload 6, 2) := by decide +kernel
theorem dX0_turnsAt_82 : decode t_X0_turnsAt.2.1 82 = .ok (.iload 9, 2) := by decide +kernel
theorem dX0_turnsAt_84 : decode t_X0_turnsAt.2.1 84 = .ok (.iadd, 1) := by decide +kernel
theorem dX0_turnsAt_85 : decode t_X0_turnsAt.2.1 85 = .ok (.istore 6, 2) := by decide +kernel
theorem dX0_turnsAt_87 : decode t_X0_turnsAt.2.1 87 = .ok (.iinc 7 1, 3) := by decide +kernel
theorem dX0_turnsAt_90 : decode t_X0_turnsAt.2.1 90 = .ok (.goto (-84), 3) := by decide +kernel
theorem dX0_turnsAt_93 : decode t_X0_turnsAt.2.1 93 = .ok (.iload 6, 2) := by decide +kernel
theorem dX0_turnsAt_95 : decode t_X0_turnsAt.2.1 95 = .ok (.ireturn, 1) := by decide +kernel
theorem wd_902 : Cond.code yX0_mendingWord cX0_mendingWord 9 (some .int) ∈ lw_gd := List.mem_filter.mpr ⟨List.mem_of_getElem? (i := 902) (by decide +kernel), by decide +kernel⟩
theorem wd_900 : Cond.instanceMethod yX0_mendingWord ∈ lw_gd := List.mem_filter.mpr ⟨List.mem_of_getElem? (i := 900) (by decide +kernel), by decide +kernel⟩
theorem wd_901 : Cond.selects RX0 yX0_mendingWord yX0_mendingWord ∈ lw_gd := List.mem_filter.mpr ⟨List.mem_of_getElem? (i := 901) (by decide +kernel), by decide +kernel⟩
theorem vX0_mendingWord : wm_calV t_X0_mendingWord 4 := ⟨⟨wd_902, wd_82, by decide +kernel, by decide +kernel, by decide +kernel⟩, wd_900, wd_901⟩
theorem dX0_mendingWord_0 : decode t_X0_mendingWord.2.1 0 = .ok (.iconst 4, 1) := by decide +kernel
theorem dX0_mendingWord_1 : decode t_X0_mendingWord.2.1 1 = .ok (.iload_n 3, 1) := by decide +kernel
theorem dX0_mendingWord_2 : decode t_X0_mendingWord.2.1 2 = .ok (.imul, 1) := by decide +kernel
theorem dX0_mendingWord_3 : decode t_X0_mendingWord.2.1 3 = .ok (.iload 4, 2) := by decide +kernel
theorem dX0_mendingWord_5 : decode t_X0_mendingWord.2.1 5 = .ok (.iadd, 1) := by decide +kernel
theorem dX0_mendingWord_6 : decode t_X0_mendingWord.2.1 6 = .ok (.istore 5, 2) := by decide +kernel
theorem dX0_mendingWord_8 : decode t_X0_mendingWord.2.1 8 = .ok (.aload_n 0, 1) := by decide +kernel
theorem dX0_mendingWord_9 : decode t_X0_mendingWord.2.1 9 = .ok (.getfield 34, 3) := by decide +kernel
theorem gX0_mendingWord_9 : wm_gf t_X0_mendingWord 9 0 3 := ⟨_, _, _, 34, rfl, by decide, wd_211, dX0_mendingWord_9⟩
theorem dX0_mendingWord_12 : decode t_X0_mendingWord.2.1 12 = .ok (.getfield 132, 3) := by decide +kernel
theorem wd_140 : Cond.fieldLink RX0 132 "TurnedStones$Stones" "words" "[I" ∈ lw_gd := List.mem_filter.mpr ⟨List.mem_of_getElem? (i := 140) (by decide +kernel), by decide +kernel⟩
theorem gX0_mendingWord_12 : wm_gf t_X0_mendingWord 12 4 3 := ⟨_, _, _, 132, rfl, by decide, wd_140, dX0_mendingWord_12⟩
theorem dX0_mendingWord_15 : decode t_X0_mendingWord.2.1 15 = .ok (.iload 5, 2) := by decide +kernel
theorem dX0_mendingWord_17 : decode t_X0_mendingWord.2.1 17 = .ok (.iaload, 1) := by decide +kernel
theorem dX0_mendingWord_18 : decode t_X0_mendingWord.2.1 18 = .ok (.istore 6, 2) := by decide +kernel
theorem dX0_mendingWord_20 : decode t_X0_mendingWord.2.1 20 = .ok (.bipush (-9), 2) := by decide +kernel
theorem dX0_mendingWord_22 : decode t_X0_mendingWord.2.1 22 = .ok (.istore 7, 2) := by decide +kernel
theorem dX0_mendingWord_24 : decode t_X0_mendingWord.2.1 24 = .ok (.iconst 0, 1) := by decide +kernel
theorem dX0_mendingWord_25 : decode t_X0_mendingWord.2.1 25 = .ok (.istore 8, 2) := by decide +kernel
theorem dX0_mendingWord_27 : decode t_X0_mendingWord.2.1 27 = .ok (.iload 8, 2) := by decide +kernel
theorem dX0_mendingWord_29 : decode t_X0_mendingWord.2.1 29 = .ok (.bipush 8, 2) := by decide +kernel
theorem dX0_mendingWord_31 : decode t_X0_mendingWord.2.1 31 = .ok (.if_icmp .ge 64, 3) := by decide +kernel
theorem dX0_mendingWord_34 : decode t_X0_mendingWord.2.1 34 = .ok (.iload 7, 2) := by decide +kernel
theorem dX0_mendingWord_36 : decode t_X0_mendingWord.2.1 36 = .ok (.bipush (-9), 2) := by decide +kernel
theorem dX0_mendingWord_38 : decode t_X0_mendingWord.2.1 38 = .ok (.if_icmp .ne 57, 3) := by decide +kernel
theorem dX0_mendingWord_41 : decode t_X0_mendingWord.2.1 41 = .ok (.aload_n 0, 1) := by decide +kernel
theorem dX0_mendingWord_42 : decode t_X0_mendingWord.2.1 42 = .ok (.iload_n 1, 1) := by decide +kernel
theorem dX0_mendingWord_43 : decode t_X0_mendingWord.2.1 43 = .ok (.iload 8, 2) := by decide +kernel
theorem dX0_mendingWord_45 : decode t_X0_mendingWord.2.1 45 = .ok (.invokevirtual 134, 3) := by decide +kernel
theorem wd_903 : Cond.methodLink RX0 134 yX0_hasWord ∈ lw_gd := List.mem_filter.mpr ⟨List.mem_of_getElem? (i := 903) (by decide +kernel), by decide +kernel⟩
theorem iX0_mendingWord_45 : wm_iv t_X0_mendingWord t_X0_hasWord 45 := ⟨134, wd_903, dX0_mendingWord_45⟩
theorem dX0_mendingWord_48 : decode t_X0_mendingWord.2.1 48 = .ok (.ifCond .ne 6, 3) := by decide +kernel
theorem dX0_mendingWord_51 : decode t_X0_mendingWord.2.1 51 = .ok (.goto 38, 3) := by decide +kernel
theorem dX0_mendingWord_54 : decode t_X0_mendingWord.2.1 54 = .ok (.aload_n 0, 1) := by decide +kernel
theorem dX0_mendingWord_55 : decode t_X0_mendingWord.2.1 55 = .ok (.getfield 34, 3) := by decide +kernel
theorem gX0_mendingWord_55 : wm_gf t_X0_mendingWord 55 0 3 := ⟨_, _, _, 34, rfl, by decide, wd_211, dX0_mendingWord_55⟩
theorem dX0_mendingWord_58 : decode t_X0_mendingWord.2.1 58 = .ok (.getfield 132, 3) := by decide +kernel
theorem gX0_mendingWord_58 : wm_gf t_X0_mendingWord 58 4 3 := ⟨_, _, _, 132, rfl, by decide, wd_140, dX0_mendingWord_58⟩
theorem dX0_mendingWord_61 : decode t_X0_mendingWord.2.1 61 = .ok (.iload 5, 2) := by decide +kernel
theorem dX0_mendingWord_63 : decode t_X0_mendingWord.2.1 63 = .ok (.iload 8, 2) := by decide +kernel
theorem dX0_mendingWord_65 : decode t_X0_mendingWord.2.1 65 = .ok (.iastore, 1) := by decide +kernel
theorem dX0_mendingWord_66 : decode t_X0_mendingWord.2.1 66 = .ok (.aload_n 0, 1) := by decide +kernel
theorem dX0_mendingWord_67 : decode t_X0_mendingWord.2.1 67 = .ok (.aload_n 0, 1) := by decide +kernel
theorem dX0_mendingWord_68 : decode t_X0_mendingWord.2.1 68 = .ok (.iload_n 1, 1) := by decide +kernel
theorem dX0_mendingWord_69 : decode t_X0_mendingWord.2.1 69 = .ok (.iload_n 2, 1) := by decide +kernel
theorem dX0_mendingWord_70 : decode t_X0_mendingWord.2.1 70 = .ok (.invokevirtual 138, 3) := by decide +kernel
theorem wd_907 : Cond.methodLink RX0 138 yX0_leastYears ∈ lw_gd := List.mem_filter.mpr ⟨List.mem_of_getElem? (i := 907) (by decide +kernel), by decide +kernel⟩
theorem iX0_mendingWord_70 : wm_iv t_X0_mendingWord t_X0_leastYears 70 := ⟨138, wd_907, dX0_mendingWord_70⟩
theorem dX0_mendingWord_73 : decode t_X0_mendingWord.2.1 73 = .ok (.putfield 26, 3) := by decide +kernel
theorem wd_209 : Cond.fieldLink RX0 26 "TurnedStones$LawBook" "mendedYears" "I" ∈ lw_gd := List.mem_filter.mpr ⟨List.mem_of_getElem? (i := 209) (by decide +kernel), by decide +kernel⟩
theorem gX0_mendingWord_73 : wm_pf t_X0_mendingWord 73 0 2 .int := ⟨_, _, _, 26, rfl, by decide, wd_209, dX0_mendingWord_73, rfl, by decide +kernel⟩
theorem dX0_mendingWord_76 : decode t_X0_mendingWord.2.1 76 = .ok (.aload_n 0, 1) := by decide +kernel
theorem dX0_mendingWord_77 : decode t_X0_mendingWord.2.1 77 = .ok (.getfield 26, 3) := by decide +kernel
theorem gX0_mendingWord_77 : wm_gf t_X0_mendingWord 77 0 2 := ⟨_, _, _, 26, rfl, by decide, wd_209, dX0_mendingWord_77⟩
theorem dX0_mendingWord_80 : decode t_X0_mendingWord.2.1 80 = .ok (.bipush (-9), 2) := by decide +kernel
theorem dX0_mendingWord_82 : decode t_X0_mendingWord.2.1 82 = .ok (.if_icmp .eq 7, 3) := by decide +kernel
theorem dX0_mendingWord_85 : decode t_X0_mendingWord.2.1 85 = .ok (.iload 8, 2) := by decide +kernel
theorem dX0_mendingWord_87 : decode t_X0_mendingWord.2.1 87 = .ok (.istore 7, 2) := by decide +kernel
theorem dX0_mendingWord_89 : decode t_X0_mendingWord.2.1 89 = .ok (.iinc 8 1, 3) := by decide +kernel
theorem dX0_mendingWord_92 : decode t_X0_mendingWord.2.1 92 = .ok (.goto (-65), 3) := by decide +kernel
theorem dX0_mendingWord_95 : decode t_X0_mendingWord.2.1 95 = .ok (.aload_n 0, 1) := by decide +kernel
theorem dX0_mendingWord_96 : decode t_X0_mendingWord.2.1 96 = .ok (.getfield 34, 3) := by decide +kernel
theorem gX0_mendingWord_96 : wm_gf t_X0_mendingWord 96 0 3 := ⟨_, _, _, 34, rfl, by decide, wd_211, dX0_mendingWord_96⟩
theorem dX0_mendingWord_99 : decode t_X0_mendingWord.2.1 99 = .ok (.getfield 132, 3) := by decide +kernel
theorem gX0_mendingWord_99 : wm_gf t_X0_mendingWord 99 4 3 := ⟨_, _, _, 132, rfl, by decide, wd_140, dX0_mendingWord_99⟩
theorem dX0_mendingWord_102 : decode t_X0_mendingWord.2.1 102 = .ok (.iload 5, 2) := by decide +kernel
theorem dX0_mendingWord_104 : decode t_X0_mendingWord.2.1 104 = .ok (.iload 6, 2) := by decide +kernel
theorem dX0_mendingWord_106 : decode t_X0_mendingWord.2.1 106 = .ok (.iastore, 1) := by decide +kernel
theorem dX0_mendingWord_107 : decode t_X0_mendingWord.2.1 107 = .ok (.iload 7, 2) := by decide +kernel
theorem dX0_mendingWord_109 : decode t_X0_mendingWord.2.1 109 = .ok (.ireturn, 1) := by decide +kernel
theorem wd_906 : Cond.code yX0_hasWord cX0_hasWord 4 (some .boolean) ∈ lw_gd := List.mem_filter.mpr ⟨List.mem_of_getElem? (i := 906) (by decide +kernel), by decide +kernel⟩
theorem wd_905 : Cond.instanceMethod yX0_hasWord ∈ lw_gd := List.mem_filter.mpr ⟨List.mem_of_getElem? (i := 905) (by decide +kernel), by decide +kernel⟩
theorem wd_24 : Cond.selects RX0 yX0_hasWord yX0_hasWord ∈ lw_gd := List.mem_filter.mpr ⟨List.mem_of_getElem? (i := 24) (by decide +kernel), by decide +kernel⟩
theorem vX0_hasWord : wm_calV t_X0_hasWord 2 := ⟨⟨wd_906, wd_82, by decide +kernel, by decide +kernel, by decide +kernel⟩, wd_905, wd_24⟩
theorem dX0_hasWord_0 : decode t_X0_hasWord.2.1 0 = .ok (.iconst 0, 1) := by decide +kernel
theorem dX0_hasWord_1 : decode t_X0_hasWord.2.1 1 = .ok (.istore_n 3, 1) := by decide +kernel
theorem dX0_hasWord_2 : decode t_X0_hasWord.2.1 2 = .ok (.iload_n 3, 1) := by decide +kernel
theorem dX0_hasWord_3 : decode t_X0_hasWord.2.1 3 = .ok (.aload_n 0, 1) := by decide +kernel
theorem dX0_hasWord_4 : decode t_X0_hasWord.2.1 4 = .ok (.getfield 14, 3) := by decide +kernel
theorem gX0_hasWord_4 : wm_gf t_X0_hasWord 4 0 0 := ⟨_, _, _, 14, rfl, by decide, wd_204, dX0_hasWord_4⟩
theorem dX0_hasWord_7 : decode t_X0_hasWord.2.1 7 = .ok (.iload_n 1, 1) := by decide +kernel
theorem dX0_hasWord_8 : decode t_X0_hasWord.2.1 8 = .ok (.invokevirtual 71, 3) := by decide +kernel
theorem iX0_hasWord_8 : wm_iv t_X0_hasWord t_X5_size 8 := ⟨71, wd_593, dX0_hasWord_8⟩
theorem dX0_hasWord_11 : decode t_X0_hasWord.2.1 11 = .ok (.if_icmp .ge 24, 3) := by decide +kernel
theorem dX0_hasWord_14 : decode t_X0_hasWord.2.1 14 = .ok (.aload_n 0, 1) := by decide +kernel
theorem dX0_hasWord_15 : decode t_X0_hasWord.2.1 15 = .ok (.getfield 14, 3) := by decide +kernel
theorem gX0_hasWord_15 : wm_gf t_X0_hasWord 15 0 0 := ⟨_, _, _, 14, rfl, by decide, wd_204, dX0_hasWord_15⟩
theorem dX0_hasWord_18 : decode t_X0_hasWord.2.1 18 = .ok (.iload_n 1, 1) := by decide +kernel
theorem dX0_hasWord_19 : decode t_X0_hasWord.2.1 19 = .ok (.iload_n 3, 1) := by decide +kernel
theorem dX0_hasWord_20 : decode t_X0_hasWord.2.1 20 = .ok (.invokevirtual 79, 3) := by decide +kernel
theorem iX0_hasWord_20 : wm_iv t_X0_hasWord t_X5_get 20 := ⟨79, wd_613, dX0_hasWord_20⟩
theorem dX0_hasWord_23 : decode t_X0_hasWord.2.1 23 = .ok (.iload_n 2, 1) := by decide +kernel
theorem dX0_hasWord_24 : decode t_X0_hasWord.2.1 24 = .ok (.if_icmp .ne 5, 3) := by decide +kernel
theorem dX0_hasWord_27 : decode t_X0_hasWord.2.1 27 = .ok (.iconst 1, 1) := by decide +kernel
theorem dX0_hasWord_28 : decode t_X0_hasWord.2.1 28 = .ok (.ireturn, 1) := by decide +kernel
theorem dX0_hasWord_29 : decode t_X0_hasWord.2.1 29 = .ok (.iinc 3 1, 3) := by decide +kernel
theorem dX0_hasWord_32 : decode t_X0_hasWord.2.1 32 = .ok (.goto (-30), 3) := by decide +kernel
theorem dX0_hasWord_35 : decode t_X0_hasWord.2.1 35 = .ok (.iconst 0, 1) := by decide +kernel
theorem dX0_hasWord_36 : decode t_X0_hasWord.2.1 36 = .ok (.ireturn, 1) := by decide +kernel
