theorem wd_1519 : Cond.code yX10_share cX10_share 5 (some .int) ∈ lw_gd := List.mem_filter.mpr ⟨List.mem_of_getElem? (i := 1519) (by decide +kernel), by decide +kernel⟩
theorem wd_1517 : Cond.instanceMethod yX10_share ∈ lw_gd := List.mem_filter.mpr ⟨List.mem_of_getElem? (i := 1517) (by decide +kernel), by decide +kernel⟩
theorem wd_1518 : Cond.selects RX10 yX10_share yX10_share ∈ lw_gd := List.mem_filter.mpr ⟨List.mem_of_getElem? (i := 1518) (by decide +kernel), by decide +kernel⟩
theorem vX10_share : wm_calV t_X10_share 1 := ⟨⟨wd_1519, wd_88, by decide +kernel, by decide +kernel, by decide +kernel⟩, wd_1517, wd_1518⟩
theorem dX10_share_0 : decode t_X10_share.2.1 0 = .ok (.iload_n 1, 1) := by decide +kernel
theorem dX10_share_1 : decode t_X10_share.2.1 1 = .ok (.invokestatic 260, 3) := by decide +kernel
theorem iX10_share_1 : wm_is t_X10_share t_X10_isSet 1 := ⟨260, wd_1477, dX10_share_1⟩
theorem dX10_share_4 : decode t_X10_share.2.1 4 = .ok (.ifCond .ne 5, 3) := by decide +kernel
theorem dX10_share_7 : decode t_X10_share.2.1 7 = .ok (.iconst (-1), 1) := by decide +kernel
theorem dX10_share_8 : decode t_X10_share.2.1 8 = .ok (.ireturn, 1) := by decide +kernel
theorem dX10_share_9 : decode t_X10_share.2.1 9 = .ok (.aload_n 0, 1) := by decide +kernel
theorem dX10_share_10 : decode t_X10_share.2.1 10 = .ok (.getfield 164, 3) := by decide +kernel
theorem gX10_share_10 : wm_gf t_X10_share 10 10 12 := ⟨_, _, _, 164, rfl, by decide, wd_1126, dX10_share_10⟩
theorem dX10_share_13 : decode t_X10_share.2.1 13 = .ok (.ifCond .ne 6, 3) := by decide +kernel
theorem dX10_share_16 : decode t_X10_share.2.1 16 = .ok (.bipush (-4), 2) := by decide +kernel
theorem dX10_share_18 : decode t_X10_share.2.1 18 = .ok (.ireturn, 1) := by decide +kernel
theorem dX10_share_19 : decode t_X10_share.2.1 19 = .ok (.aload_n 0, 1) := by decide +kernel
theorem dX10_share_20 : decode t_X10_share.2.1 20 = .ok (.invokevirtual 253, 3) := by decide +kernel
theorem iX10_share_20 : wm_iv t_X10_share t_X10_layTurns 20 := ⟨253, wd_1484, dX10_share_20⟩
theorem dX10_share_23 : decode t_X10_share.2.1 23 = .ok (.aload_n 0, 1) := by decide +kernel
theorem dX10_share_24 : decode t_X10_share.2.1 24 = .ok (.iconst 0, 1) := by decide +kernel
theorem dX10_share_25 : decode t_X10_share.2.1 25 = .ok (.invokevirtual 256, 3) := by decide +kernel
theorem iX10_share_25 : wm_iv t_X10_share t_X10_layStands 25 := ⟨256, wd_1496, dX10_share_25⟩
theorem dX10_share_28 : decode t_X10_share.2.1 28 = .ok (.iconst 0, 1) := by decide +kernel
theorem dX10_share_29 : decode t_X10_share.2.1 29 = .ok (.istore_n 2, 1) := by decide +kernel
theorem dX10_share_30 : decode t_X10_share.2.1 30 = .ok (.iconst 0, 1) := by decide +kernel
theorem dX10_share_31 : decode t_X10_share.2.1 31 = .ok (.istore_n 3, 1) := by decide +kernel
theorem dX10_share_32 : decode t_X10_share.2.1 32 = .ok (.iconst 0, 1) := by decide +kernel
theorem dX10_share_33 : decode t_X10_share.2.1 33 = .ok (.istore 4, 2) := by decide +kernel
theorem dX10_share_35 : decode t_X10_share.2.1 35 = .ok (.iload 4, 2) := by decide +kernel
theorem dX10_share_37 : decode t_X10_share.2.1 37 = .ok (.aload_n 0, 1) := by decide +kernel
theorem dX10_share_38 : decode t_X10_share.2.1 38 = .ok (.invokevirtual 244, 3) := by decide +kernel
theorem iX10_share_38 : wm_iv t_X10_share t_X10_stateMany 38 := ⟨244, wd_1488, dX10_share_38⟩
theorem dX10_share_41 : decode t_X10_share.2.1 41 = .ok (.if_icmp .ge 58, 3) := by decide +kernel
theorem dX10_share_44 : decode t_X10_share.2.1 44 = .ok (.iload_n 2, 1) := by decide +kernel
theorem dX10_share_45 : decode t_X10_share.2.1 45 = .ok (.aload_n 0, 1) := by decide +kernel
theorem dX10_share_46 : decode t_X10_share.2.1 46 = .ok (.getfield 62, 3) := by decide +kernel
theorem gX10_share_46 : wm_gf t_X10_share 46 10 30 := ⟨_, _, _, 62, rfl, by decide, wd_1144, dX10_share_46⟩
theorem dX10_share_49 : decode t_X10_share.2.1 49 = .ok (.iload 4, 2) := by decide +kernel
theorem dX10_share_51 : decode t_X10_share.2.1 51 = .ok (.iaload, 1) := by decide +kernel
theorem dX10_share_52 : decode t_X10_share.2.1 52 = .ok (.ifCond .lt 7, 3) := by decide +kernel
theorem dX10_share_55 : decode t_X10_share.2.1 55 = .ok (.iconst 1, 1) := by decide +kernel
theorem dX10_share_56 : decode t_X10_share.2.1 56 = .ok (.goto 4, 3) := by decide +kernel
theorem dX10_share_59 : decode t_X10_share.2.1 59 = .ok (.iconst 0, 1) := by decide +kernel
theorem dX10_share_60 : decode t_X10_share.2.1 60 = .ok (.iadd, 1) := by decide +kernel
theorem dX10_share_61 : decode t_X10_share.2.1 61 = .ok (.istore_n 2, 1) := by decide +kernel
theorem dX10_share_62 : decode t_X10_share.2.1 62 = .ok (.iload_n 3, 1) := by decide +kernel
theorem dX10_share_63 : decode t_X10_share.2.1 63 = .ok (.aload_n 0, 1) := by decide +kernel
theorem dX10_share_64 : decode t_X10_share.2.1 64 = .ok (.getfield 62, 3) := by decide +kernel
theorem gX10_share_64 : wm_gf t_X10_share 64 10 30 := ⟨_, _, _, 62, rfl, by decide, wd_1144, dX10_share_64⟩
theorem dX10_share_67 : decode t_X10_share.2.1 67 = .ok (.iload 4, 2) := by decide +kernel
theorem dX10_share_69 : decode t_X10_share.2.1 69 = .ok (.iaload, 1) := by decide +kernel
theorem dX10_share_70 : decode t_X10_share.2.1 70 = .ok (.ifCond .lt 20, 3) := by decide +kernel
theorem dX10_share_73 : decode t_X10_share.2.1 73 = .ok (.aload_n 0, 1) := by decide +kernel
theorem dX10_share_74 : decode t_X10_share.2.1 74 = .ok (.getfield 65, 3) := by decide +kernel
theorem gX10_share_74 : wm_gf t_X10_share 74 10 31 := ⟨_, _, _, 65, rfl, by decide, wd_1145, dX10_share_74⟩
theorem dX10_share_77 : decode t_X10_share.2.1 77 = .ok (.iload 4, 2) := by decide +kernel
theorem dX10_share_79 : decode t_X10_share.2.1 79 = .ok (.iaload, 1) := by decide +kernel
theorem dX10_share_80 : decode t_X10_share.2.1 80 = .ok (.iload_n 1, 1) := by decide +kernel
theorem dX10_share_81 : decode t_X10_share.2.1 81 = .ok (.iand, 1) := by decide +kernel
theorem dX10_share_82 : decode t_X10_share.2.1 82 = .ok (.iload_n 1, 1) := by decide +kernel
theorem dX10_share_83 : decode t_X10_share.2.1 83 = .ok (.if_icmp .ne 7, 3) := by decide +kernel
theorem dX10_share_86 : decode t_X10_share.2.1 86 = .ok (.iconst 1, 1) := by decide +kernel
theorem dX10_share_87 : decode t_X10_share.2.1 87 = .ok (.goto 4, 3) := by decide +kernel
theorem dX10_share_90 : decode t_X10_share.2.1 90 = .ok (.iconst 0, 1) := by decide +kernel
theorem dX10_share_91 : decode t_X10_share.2.1 91 = .ok (.iadd, 1) := by decide +kernel
theorem dX10_share_92 : decode t_X10_share.2.1 92 = .ok (.istore_n 3, 1) := by decide +kernel
theorem dX10_share_93 : decode t_X10_share.2.1 93 = .ok (.iinc 4 1, 3) := by decide +kernel
theorem dX10_share_96 : decode t_X10_share.2.1 96 = .ok (.goto (-61), 3) := by decide +kernel
theorem dX10_share_99 : decode t_X10_share.2.1 99 = .ok (.aload_n 0, 1) := by decide +kernel
theorem dX10_share_100 : decode t_X10_share.2.1 100 = .ok (.iload_n 3, 1) := by decide +kernel
theorem dX10_share_101 : decode t_X10_share.2.1 101 = .ok (.i2l, 1) := by decide +kernel
theorem dX10_share_102 : decode t_X10_share.2.1 102 = .ok (.iload_n 2, 1) := by decide +kernel
theorem dX10_share_103 : decode t_X10_share.2.1 103 = .ok (.i2l, 1) := by decide +kernel
theorem dX10_share_104 : decode t_X10_share.2.1 104 = .ok (.iload_n 3, 1) := by decide +kernel
theorem dX10_share_105 : decode t_X10_share.2.1 105 = .ok (.invokevirtual 272, 3) := by decide +kernel
theorem wd_1520 : Cond.methodLink RX10 272 yX10_fraction ∈ lw_gd := List.mem_filter.mpr ⟨List.mem_of_getElem? (i := 1520) (by decide +kernel), by decide +kernel⟩
theorem iX10_share_105 : wm_iv t_X10_share t_X10_fraction 105 := ⟨272, wd_1520, dX10_share_105⟩
theorem dX10_share_108 : decode t_X10_share.2.1 108 = .ok (.ireturn, 1) := by decide +kernel
theorem wd_1527 : Cond.code yX10_together cX10_together 4 (some .int) ∈ lw_gd := List.mem_filter.mpr ⟨List.mem_of_getElem? (i := 1527) (by decide +kernel), by decide +kernel⟩
theorem wd_1525 : Cond.instanceMethod yX10_together ∈ lw_gd := List.mem_filter.mpr ⟨List.mem_of_getElem? (i := 1525) (by decide +kernel), by decide +kernel⟩
theorem wd_1526 : Cond.selects RX10 yX10_together yX10_together ∈ lw_gd := List.mem_filter.mpr ⟨List.mem_of_getElem? (i := 1526) (by decide +kernel), by decide +kernel⟩
theorem vX10_together : wm_calV t_X10_together 0 := ⟨⟨wd_1527, wd_88, by decide +kernel, by decide +kernel, by decide +kernel⟩, wd_1525, wd_1526⟩
theorem dX10_together_0 : decode t_X10_together.2.1 0 = .ok (.aload_n 0, 1) := by decide +kernel
theorem dX10_together_1 : decode t_X10_together.2.1 1 = .ok (.invokevirtual 253, 3) := by decide +kernel
theorem iX10_together_1 : wm_iv t_X10_together t_X10_layTurns 1 := ⟨253, wd_1484, dX10_together_1⟩
theorem dX10_together_4 : decode t_X10_together.2.1 4 = .ok (.aload_n 0, 1) := by decide +kernel
theorem dX10_together_5 : decode t_X10_together.2.1 5 = .ok (.iconst 0, 1) := by decide +kernel
theorem dX10_together_6 : decode t_X10_together.2.1 6 = .ok (.invokevirtual 256, 3) := by decide +kernel
theorem iX10_together_6 : wm_iv t_X10_together t_X10_layStands 6 := ⟨256, wd_1496, dX10_together_6⟩
theorem dX10_together_9 : decode t_X10_together.2.1 9 = .ok (.iconst 0, 1) := by decide +kernel
theorem dX10_together_10 : decode t_X10_together.2.1 10 = .ok (.istore_n 1, 1) := by decide +kernel
theorem dX10_together_11 : decode t_X10_together.2.1 11 = .ok (.iconst 0, 1) := by decide +kernel
theorem dX10_together_12 : decode t_X10_together.2.1 12 = .ok (.istore_n 2, 1) := by decide +kernel
theorem dX10_together_13 : decode t_X10_together.2.1 13 = .ok (.iload_n 2, 1) := by decide +kernel
theorem dX10_together_14 : decode t_X10_together.2.1 14 = .ok (.aload_n 0, 1) := by decide +kernel
theorem dX10_together_15 : decode t_X10_together.2.1 15 = .ok (.invokevirtual 244, 3) := by decide +kernel
theorem iX10_together_15 : wm_iv t_X10_together t_X10_stateMany 15 := ⟨244, wd_1488, dX10_together_15⟩
theorem dX10_together_18 : decode t_X10_together.2.1 18 = .ok (.if_icmp .ge 62, 3) := by decide +kernel
theorem dX10_together_21 : decode t_X10_together.2.1 21 = .ok (.aload_n 0, 1) := by decide +kernel
theorem dX10_together_22 : decode t_X10_together.2.1 22 = .ok (.getfield 62, 3) := by decide +kernel
theorem gX10_together_22 : wm_gf t_X10_together 22 10 30 := ⟨_, _, _, 62, rfl, by decide, wd_1144, dX10_together_22⟩
theorem dX10_together_25 : decode t_X10_together.2.1 25 = .ok (.iload_n 2, 1) := by decide +kernel
theorem dX10_together_26 : decode t_X10_together.2.1 26 = .ok (.iaload, 1) := by decide +kernel
theorem dX10_together_27 : decode t_X10_together.2.1 27 = .ok (.ifCond .lt 12, 3) := by decide +kernel
theorem dX10_together_30 : decode t_X10_together.2.1 30 = .ok (.aload_n 0, 1) := by decide +kernel
theorem dX10_together_31 : decode t_X10_together.2.1 31 = .ok (.getfield 65, 3) := by decide +kernel
theorem gX10_together_31 : wm_gf t_X10_together 31 10 31 := ⟨_, _, _, 65, rfl, by decide, wd_1145, dX10_together_31⟩
theorem dX10_together_34 : decode t_X10_together.2.1 34 = .ok (.iload_n 2, 1) := by decide +kernel
theorem dX10_together_35 : decode t_X10_together.2.1 35 = .ok (.iaload, 1) := by decide +kernel
theorem dX10_together_36 : decode t_X10_together.2.1 36 = .ok (.goto 4, 3) := by decide +kernel
theorem dX10_together_39 : decode t_X10_together.2.1 39 = .ok (.iconst 0, 1) := by decide +kernel
theorem dX10_together_40 : decode t_X10_together.2.1 40 = .ok (.istore_n 3, 1) := by decide +kernel
theorem dX10_together_41 : decode t_X10_together.2.1 41 = .ok (.iload_n 3, 1) := by decide +kernel
theorem dX10_together_42 : decode t_X10_together.2.1 42 = .ok (.invokestatic 183, 3) := by decide +kernel
theorem iX10_together_42 : wm_is t_X10_together t_X10_bits 42 := ⟨183, wd_1367, dX10_together_42⟩
theorem dX10_together_45 : decode t_X10_together.2.1 45 = .ok (.iload_n 1, 1) := by decide +kernel
theorem dX10_together_46 : decode t_X10_together.2.1 46 = .ok (.invokestatic 183, 3) := by decide +kernel
theorem iX10_together_46 : wm_is t_X10_together t_X10_bits 46 := ⟨183, wd_1367, dX10_together_46⟩
theorem dX10_together_49 : decode t_X10_together.2.1 49 = .ok (.if_icmp .gt 19, 3) := by decide +kernel
theorem dX10_together_52 : decode t_X10_together.2.1 52 = .ok (.iload_n 3, 1) := by decide +kernel
theorem dX10_together_53 : decode t_X10_together.2.1 53 = .ok (.invokestatic 183, 3) := by decide +kernel
theorem iX10_together_53 : wm_is t_X10_together t_X10_bits 53 := ⟨183, wd_1367, dX10_together_53⟩
theorem dX10_together_56 : decode t_X10_together.2.1 56 = .ok (.iload_n 1, 1) := by decide +kernel
theorem dX10_together_57 : decode t_X10_together.2.1 57 = .ok (.invokestatic 183, 3) := by decide +kernel
theorem iX10_together_57 : wm_is t_X10_together t_X10_bits 57 := ⟨183, wd_1367, dX10_together_57⟩
theorem dX10_together_60 : decode t_X10_together.2.1 60 = .ok (.if_icmp .ne 12, 3) := by decide +kernel
theorem dX10_together_63 : decode t_X10_together.2.1 63 = .ok (.iload_n 3, 1) := by decide +kernel
theorem dX10_together_64 : decode t_X10_together.2.1 64 = .ok (.iload_n 1, 1) := by decide +kernel
theorem dX10_together_65 : decode t_X10_together.2.1 65 = .ok (.if_icmp .ge 7, 3) := by decide +kernel
theorem dX10_together_68 : decode t_X10_together.2.1 68 = .ok (.iload_n 3, 1) := by decide +kernel
theorem dX10_together_69 : decode t_X10_together.2.1 69 = .ok (.goto 4, 3) := by decide +kernel
theorem dX10_together_72 : decode t_X10_together.2.1 72 = .ok (.iload_n 1, 1) := by decide +kernel
theorem dX10_together_73 : decode t_X10_together.2.1 73 = .ok (.istore_n 1, 1) := by decide +kernel
theorem dX10_together_74 : decode t_X10_together.2.1 74 = .ok (.iinc 2 1, 3) := by decide +kernel
theorem dX10_together_77 : decode t_X10_together.2.1 77 = .ok (.goto (-64), 3) := by decide +kernel
theorem dX10_together_80 : decode t_X10_together.2.1 80 = .ok (.aload_n 0, 1) := by decide +kernel
theorem dX10_together_81 : decode t_X10_together.2.1 81 = .ok (.iload_n 1, 1) := by decide +kernel
theorem dX10_together_82 : decode t_X10_together.2.1 82 = .ok (.iload_n 1, 1) := by decide +kernel
theorem dX10_together_83 : decode t_X10_together.2.1 83 = .ok (.invokestatic 183, 3) := by decide +kernel
theorem iX10_together_83 : wm_is t_X10_together t_X10_bits 83 := ⟨183, wd_1367, dX10_together_83⟩
theorem dX10_together_86 : decode t_X10_together.2.1 86 = .ok (.invokevirtual 119, 3) := by decide +kernel
theorem iX10_together_86 : wm_iv t_X10_together t_X10_tells 86 := ⟨119, wd_1282, dX10_together_86⟩
theorem dX10_together_89 : decode t_X10_together.2.1 89 = .ok (.ireturn, 1) := by decide +kernel
theorem wd_1531 : Cond.code yX10_mend cX10_mend 8 (some .int) ∈ lw_gd := List.mem_filter.mpr ⟨List.mem_of_getElem? (i := 1531) (by decide +kernel), by decide +kernel⟩
theorem wd_1529 : Cond.instanceMethod yX10_mend ∈ lw_gd := List.mem_filter.mpr ⟨List.mem_of_getElem? (i := 1529) (by decide +kernel), by decide +kernel⟩
theorem wd_1530 : Cond.selects RX10 yX10_mend yX10_mend ∈ lw_gd := List.mem_filter.mpr ⟨List.mem_of_getElem? (i := 1530) (by decide +kernel), by decide +kernel⟩
theorem vX10_mend : wm_calV t_X10_mend 1 := ⟨⟨wd_1531, wd_88, by decide +kernel, by decide +kernel, by decide +kernel⟩, wd_1529, wd_1530⟩
theorem dX10_mend_0 : decode t_X10_mend.2.1 0 = .ok (.iload_n 1, 1) := by decide +kernel
theorem dX10_mend_1 : decode t_X10_mend.2.1 1 = .ok (.invokestatic 189, 3) := by decide +kernel
theorem iX10_mend_1 : wm_is t_X10_mend t_X10_isLaw 1 := ⟨189, wd_1374, dX10_mend_1⟩
theorem dX10_mend_4 : decode t_X10_mend.2.1 4 = .ok (.ifCond .ne 5, 3) := by decide +kernel
theorem dX10_mend_7 : decode t_X10_mend.2.1 7 = .ok (.iconst (-1), 1) := by decide +kernel
theorem dX10_mend_8 : decode t_X10_mend.2.1 8 = .ok (.ireturn, 1) := by decide +kernel
theorem dX10_mend_9 : decode t_X10_mend.2.1 9 = .ok (.aload_n 0, 1) := by decide +kernel
theorem dX10_mend_10 : decode t_X10_mend.2.1 10 = .ok (.getfield 47, 3) := by decide +kernel
theorem gX10_mend_10 : wm_gf t_X10_mend 10 10 25 := ⟨_, _, _, 47, rfl, by decide, wd_1139, dX10_mend_10⟩
theorem dX10_mend_13 : decode t_X10_mend.2.1 13 = .ok (.iload_n 1, 1) := by decide +kernel
theorem dX10_mend_14 : decode t_X10_mend.2.1 14 = .ok (.iaload, 1) := by decide +kernel
theorem dX10_mend_15 : decode t_X10_mend.2.1 15 = .ok (.ifCond .ge 9, 3) := by decide +kernel
theorem dX10_mend_18 : decode t_X10_mend.2.1 18 = .ok (.aload_n 0, 1) := by decide +kernel
theorem dX10_mend_19 : decode t_X10_mend.2.1 19 = .ok (.iconst 1, 1) := by decide +kernel
theorem dX10_mend_20 : decode t_X10_mend.2.1 20 = .ok (.invokevirtual 111, 3) := by decide +kernel
theorem iX10_mend_20 : wm_iv t_X10_mend t_X10_meets 20 := ⟨111, wd_1270, dX10_mend_20⟩
theorem dX10_mend_23 : decode t_X10_mend.2.1 23 = .ok (.ireturn, 1) := by decide +kernel
theorem dX10_mend_24 : decode t_X10_mend.2.1 24 = .ok (.aload_n 0, 1) := by decide +kernel
theorem dX10_mend_25 : decode t_X10_mend.2.1 25 = .ok (.iconst 1, 1) := by decide +kernel
theorem dX10_mend_26 : decode t_X10_mend.2.1 26 = .ok (.iload_n 1, 1) := by decide +kernel
theorem dX10_mend_27 : decode t_X10_mend.2.1 27 = .ok (.ishl, 1) := by decide +kernel
theorem dX10_mend_28 : decode t_X10_mend.2.1 28 = .ok (.invokevirtual 263, 3) := by decide +kernel
theorem iX10_mend_28 : wm_iv t_X10_mend t_X10_nearest 28 := ⟨263, wd_1480, dX10_mend_28⟩
theorem dX10_mend_31 : decode t_X10_mend.2.1 31 = .ok (.bipush (-9), 2) := by decide +kernel
theorem dX10_mend_33 : decode t_X10_mend.2.1 33 = .ok (.if_icmp .eq 6, 3) := by decide +kernel
theorem dX10_mend_36 : decode t_X10_mend.2.1 36 = .ok (.bipush (-4), 2) := by decide +kernel
theorem dX10_mend_38 : decode t_X10_mend.2.1 38 = .ok (.ireturn, 1) := by decide +kernel
theorem dX10_mend_39 : decode t_X10_mend.2.1 39 = .ok (.iconst 0, 1) := by decide +kernel
theorem dX10_mend_40 : decode t_X10_mend.2.1 40 = .ok (.istore_n 2, 1) := by decide +kernel
theorem dX10_mend_41 : decode t_X10_mend.2.1 41 = .ok (.iload_n 2, 1) := by decide +kernel
theorem dX10_mend_42 : decode t_X10_mend.2.1 42 = .ok (.iconst 4, 1) := by decide +kernel
theorem dX10_mend_43 : decode t_X10_mend.2.1 43 = .ok (.aload_n 0, 1) := by decide +kernel
theorem dX10_mend_44 : decode t_X10_mend.2.1 44 = .ok (.getfield 164, 3) := by decide +kernel
theorem gX10_mend_44 : wm_gf t_X10_mend 44 10 12 := ⟨_, _, _, 164, rfl, by decide, wd_1126, dX10_mend_44⟩
theorem dX10_mend_47 : decode t_X10_mend.2.1 47 = .ok (.imul, 1) := by decide +kernel
theorem dX10_mend_48 : decode t_X10_mend.2.1 48 = .ok (.if_icmp .ge 129, 3) := by decide +kernel
theorem dX10_mend_51 : decode t_X10_mend.2.1 51 = .ok (.iload_n 2, 1) := by decide +kernel
theorem dX10_mend_52 : decode t_X10_mend.2.1 52 = .ok (.iconst 4, 1) := by decide +kernel
theorem dX10_mend_53 : decode t_X10_mend.2.1 53 = .ok (.idiv, 1) := by decide +kernel
theorem dX10_mend_54 : decode t_X10_mend.2.1 54 = .ok (.istore_n 3, 1) := by decide +kernel
theorem dX10_mend_55 : decode t_X10_mend.2.1 55 = .ok (.aload_n 0, 1) := by decide +kernel
theorem dX10_mend_56 : decode t_X10_mend.2.1 56 = .ok (.getfield 29, 3) := by decide +kernel
theorem gX10_mend_56 : wm_gf t_X10_mend 56 10 13 := ⟨_, _, _, 29, rfl, by decide, wd_1127, dX10_mend_56⟩
theorem dX10_mend_59 : decode t_X10_mend.2.1 59 = .ok (.iload_n 3, 1) := by decide +kernel
theorem dX10_mend_60 : decode t_X10_mend.2.1 60 = .ok (.iaload, 1) := by decide +kernel
theorem dX10_mend_61 : decode t_X10_mend.2.1 61 = .ok (.iconst 5, 1) := by decide +kernel
theorem dX10_mend_62 : decode t_X10_mend.2.1 62 = .ok (.if_icmp .eq 19, 3) := by decide +kernel
theorem dX10_mend_65 : decode t_X10_mend.2.1 65 = .ok (.aload_n 0, 1) := by decide +kernel
theorem dX10_mend_66 : decode t_X10_mend.2.1 66 = .ok (.getfield 35, 3) := by decide +kernel
theorem gX10_mend_66 : wm_gf t_X10_mend 66 10 15 := ⟨_, _, _, 35, rfl, by decide, wd_1129, dX10_mend_66⟩
theorem dX10_mend_69 : decode t_X10_mend.2.1 69 = .ok (.iload_n 3, 1) := by decide +kernel
theorem dX10_mend_70 : decode t_X10_mend.2.1 70 = .ok (.iaload, 1) := by decide +kernel
theorem dX10_mend_71 : decode t_X10_mend.2.1 71 = .ok (.iload_n 2, 1) := by decide +kernel
theorem dX10_mend_72 : decode t_X10_mend.2.1 72 = .ok (.iconst 4, 1) := by decide +kernel
theorem dX10_mend_73 : decode t_X10_mend.2.1 73 = .ok (.irem, 1) := by decide +kernel
theorem dX10_mend_74 : decode t_X10_mend.2.1 74 = .ok (.if_icmp .eq 7, 3) := by decide +kernel
theorem dX10_mend_77 : decode t_X10_mend.2.1 77 = .ok (.iconst 1, 1) := by decide +kernel
theorem dX10_mend_78 : decode t_X10_mend.2.1 78 = .ok (.goto 4, 3) := by decide +kernel
theorem dX10_mend_81 : decode t_X10_mend.2.1 81 = .ok (.iconst 0, 1) := by decide +kernel
theorem dX10_mend_82 : decode t_X10_mend.2.1 82 = .ok (.istore 4, 2) := by decide +kernel
theorem dX10_mend_84 : decode t_X10_mend.2.1 84 = .ok (.aload_n 0, 1) := by decide +kernel
theorem dX10_mend_85 : decode t_X10_mend.2.1 85 = .ok (.getfield 32, 3) := by decide +kernel
theorem gX10_mend_85 : wm_gf t_X10_mend 85 10 14 := ⟨_, _, _, 32, rfl, by decide, wd_1128, dX10_mend_85⟩
theorem dX10_mend_88 : decode t_X10_mend.2.1 88 = .ok (.iload_n 2, 1) := by decide +kernel
theorem dX10_mend_89 : decode t_X10_mend.2.1 89 = .ok (.iaload, 1) := by decide +kernel
theorem dX10_mend_90 : decode t_X10_mend.2.1 90 = .ok (.istore 5, 2) := by decide +kernel
theorem dX10_mend_92 : decode t_X10_mend.2.1 92 = .ok (.iconst 0, 1) := by decide +kernel
theorem dX10_mend_93 : decode t_X10_mend.2.1 93 = .ok (.istore 6, 2) := by decide +kernel
theorem dX10_mend_95 : decode t_X10_mend.2.1 95 = .ok (.iload 6, 2) := by decide +kernel
theorem dX10_mend_97 : decode t_X10_mend.2.1 97 = .ok (.bipush 8, 2) := by decide +kernel
theorem dX10_mend_99 : decode t_X10_mend.2.1 99 = .ok (.if_icmp .ge 72, 3) := by decide +kernel
theorem dX10_mend_102 : decode t_X10_mend.2.1 102 = .ok (.iload 4, 2) := by decide +kernel
theorem dX10_mend_104 : decode t_X10_mend.2.1 104 = .ok (.ifCond .eq 67, 3) := by decide +kernel
theorem dX10_mend_107 : decode t_X10_mend.2.1 107 = .ok (.aload_n 0, 1) := by decide +kernel
theorem dX10_mend_108 : decode t_X10_mend.2.1 108 = .ok (.getfield 32, 3) := by decide +kernel
theorem gX10_mend_108 : wm_gf t_X10_mend 108 10 14 := ⟨_, _, _, 32, rfl, by decide, wd_1128, dX10_mend_108⟩
theorem dX10_mend_111 : decode t_X10_mend.2.1 111 = .ok (.iload_n 2, 1) := by decide +kernel
theorem dX10_mend_112 : decode t_X10_mend.2.1 112 = .ok (.iload 6, 2) := by decide +kernel
theorem dX10_mend_114 : decode t_X10_mend.2.1 114 = .ok (.iastore, 1) := by decide +kernel
theorem dX10_mend_115 : decode t_X10_mend.2.1 115 = .ok (.aload_n 0, 1) := by decide +kernel
theorem dX10_mend_116 : decode t_X10_mend.2.1 116 = .ok (.iconst 1, 1) := by decide +kernel
theorem dX10_mend_117 : decode t_X10_mend.2.1 117 = .ok (.iload_n 1, 1) := by decide +kernel
theorem dX10_mend_118 : decode t_X10_mend.2.1 118 = .ok (.ishl, 1) := by decide +kernel
theorem dX10_mend_119 : decode t_X10_mend.2.1 119 = .ok (.invokevirtual 263, 3) := by decide +kernel
theorem iX10_mend_119 : wm_iv t_X10_mend t_X10_nearest 119 := ⟨263, wd_1480, dX10_mend_119⟩
theorem dX10_mend_122 : decode t_X10_mend.2.1 122 = .ok (.istore 7, 2) := by decide +kernel
theorem dX10_mend_124 : decode t_X10_mend.2.1 124 = .ok (.aload_n 0, 1) := by decide +kernel
theorem dX10_mend_125 : decode t_X10_mend.2.1 125 = .ok (.getfield 32, 3) := by decide +kernel
theorem gX10_mend_125 : wm_gf t_X10_mend 125 10 14 := ⟨_, _, _, 32, rfl, by decide, wd_1128, dX10_mend_125⟩
theorem dX10_mend_128 : decode t_X10_mend.2.1 128 = .ok (.iload_n 2, 1) := by decide +kernel
theorem dX10_mend_129 : decode t_X10_mend.2.1 129 = .ok (.iload 5, 2) := by decide +kernel
theorem dX10_mend_131 : decode t_X10_mend.2.1 131 = .ok (.iastore, 1) := by decide +kernel
theorem dX10_mend_132 : decode t_X10_mend.2.1 132 = .ok (.iload 7, 2) := by decide +kernel
theorem dX10_mend_134 : decode t_X10_mend.2.1 134 = .ok (.bipush (-9), 2) := by decide +kernel
theorem dX10_mend_136 : decode t_X10_mend.2.1 136 = .ok (.if_icmp .eq 29, 3) := by decide +kernel
theorem dX10_mend_139 : decode t_X10_mend.2.1 139 = .ok (.aload_n 0, 1) := by decide +kernel
theorem dX10_mend_140 : decode t_X10_mend.2.1 140 = .ok (.aload_n 0, 1) := by decide +kernel
theorem dX10_mend_141 : decode t_X10_mend.2.1 141 = .ok (.getfield 62, 3) := by decide +kernel
theorem gX10_mend_141 : wm_gf t_X10_mend 141 10 30 := ⟨_, _, _, 62, rfl, by decide, wd_1144, dX10_mend_141⟩
theorem dX10_mend_144 : decode t_X10_mend.2.1 144 = .ok (.iload 7, 2) := by decide +kernel
theorem dX10_mend_146 : decode t_X10_mend.2.1 146 = .ok (.iaload, 1) := by decide +kernel
theorem dX10_mend_147 : decode t_X10_mend.2.1 147 = .ok (.bipush 100, 2) := by decide +kernel
theorem dX10_mend_149 : decode t_X10_mend.2.1 149 = .ok (.iload_n 3, 1) := by decide +kernel
theorem dX10_mend_150 : decode t_X10_mend.2.1 150 = .ok (.imul, 1) := by decide +kernel
theorem dX10_mend_151 : decode t_X10_mend.2.1 151 = .ok (.bipush 10, 2) := by decide +kernel
theorem dX10_mend_153 : decode t_X10_mend.2.1 153 = .ok (.iload_n 2, 1) := by decide +kernel
theorem dX10_mend_154 : decode t_X10_mend.2.1 154 = .ok (.iconst 4, 1) := by decide +kernel
theorem dX10_mend_155 : decode t_X10_mend.2.1 155 = .ok (.irem, 1) := by decide +kernel
theorem dX10_mend_156 : decode t_X10_mend.2.1 156 = .ok (.imul, 1) := by decide +kernel
theorem dX10_mend_157 : decode t_X10_mend.2.1 157 = .ok (.iadd, 1) := by decide +kernel
theorem dX10_mend_158 : decode t_X10_mend.2.1 158 = .ok (.iload 6, 2) := by decide +kernel
theorem dX10_mend_160 : decode t_X10_mend.2.1 160 = .ok (.iadd, 1) := by decide +kernel
theorem dX10_mend_161 : decode t_X10_mend.2.1 161 = .ok (.invokevirtual 119, 3) := by decide +kernel
theorem iX10_mend_161 : wm_iv t_X10_mend t_X10_tells 161 := ⟨119, wd_1282, dX10_mend_161⟩
theorem dX10_mend_164 : decode t_X10_mend.2.1 164 = .ok (.ireturn, 1) := by decide +kernel
theorem dX10_mend_165 : decode t_X10_mend.2.1 165 = .ok (.iinc 6 1, 3) := by decide +kernel
theorem dX10_mend_168 : decode t_X10_mend.2.1 168 = .ok (.goto (-73), 3) := by decide +kernel
theorem dX10_mend_171 : decode t_X10_mend.2.1 171 = .ok (.iinc 2 1, 3) := by decide +kernel
theorem dX10_mend_174 : decode t_X10_mend.2.1 174 = .ok (.goto (-133), 3) := by decide +kernel
theorem dX10_mend_177 : decode t_X10_mend.2.1 177 = .ok (.bipush (-9), 2) := by decide +kernel
theorem dX10_mend_179 : decode t_X10_mend.2.1 179 = .ok (.ireturn, 1) := by decide +kernel
theorem wd_1543 : Cond.code yX10_turnedOf cX10_turnedOf 4 (some .int) ∈ lw_gd := List.mem_filter.mpr ⟨List.mem_of_getElem? (i := 1543) (by decide +kernel), by decide +kernel⟩
theorem wd_1542 : Cond.instanceMethod yX10_turnedOf ∈ lw_gd := List.mem_filter.mpr ⟨List.mem_of_getElem? (i := 1542) (by decide +kernel), by decide +kernel⟩
theorem wd_70 : Cond.selects RX10 yX10_turnedOf yX10_turnedOf ∈ lw_gd := List.mem_filter.mpr ⟨List.mem_of_getElem? (i := 70) (by decide +kernel), by decide +kernel⟩
theorem vX10_turnedOf : wm_calV t_X10_turnedOf 2 := ⟨⟨wd_1543, wd_88, by decide +kernel, by decide +kernel, by decide +kernel⟩, wd_1542, wd_70⟩
theorem dX10_turnedOf_0 : decode t_X10_turnedOf.2.1 0 = .ok (.iload_n 1, 1) := by decide +kernel
theorem dX10_turnedOf_1 : decode t_X10_turnedOf.2.1 1 = .ok (.iconst 2, 1) := by decide +kernel
theorem dX10_turnedOf_2 : decode t_X10_turnedOf.2.1 2 = .ok (.iload_n 2, 1) := by decide +kernel
theorem dX10_turnedOf_3 : decode t_X10_turnedOf.2.1 3 = .ok (.imul, 1) := by decide +kernel
theorem dX10_turnedOf_4 : decode t_X10_turnedOf.2.1 4 = .ok (.ishr, 1) := by decide +kernel
theorem dX10_turnedOf_5 : decode t_X10_turnedOf.2.1 5 = .ok (.iconst 3, 1) := by decide +kernel
theorem dX10_turnedOf_6 : decode t_X10_turnedOf.2.1 6 = .ok (.iand, 1) := by decide +kernel
theorem dX10_turnedOf_7 : decode t_X10_turnedOf.2.1 7 = .ok (.istore_n 3, 1) := by decide +kernel
theorem dX10_turnedOf_8 : decode t_X10_turnedOf.2.1 8 = .ok (.iload_n 1, 1) := by decide +kernel
theorem dX10_turnedOf_9 : decode t_X10_turnedOf.2.1 9 = .ok (.iload_n 3, 1) := by decide +kernel
theorem dX10_turnedOf_10 : decode t_X10_turnedOf.2.1 10 = .ok (.aload_n 0, 1) := by decide +kernel
theorem dX10_turnedOf_11 : decode t_X10_turnedOf.2.1 11 = .ok (.iload_n 2, 1) := by decide +kernel
theorem dX10_turnedOf_12 : decode t_X10_turnedOf.2.1 12 = .ok (.invokevirtual 231, 3) := by decide +kernel
theorem iX10_turnedOf_12 : wm_iv t_X10_turnedOf t_X10_stepOf 12 := ⟨231, wd_1449, dX10_turnedOf_12⟩
theorem dX10_turnedOf_15 : decode t_X10_turnedOf.2.1 15 = .ok (.iadd, 1) := by decide +kernel
theorem dX10_turnedOf_16 : decode t_X10_turnedOf.2.1 16 = .ok (.iconst 4, 1) := by decide +kernel
theorem dX10_turnedOf_17 : decode t_X10_turnedOf.2.1 17 = .ok (.irem, 1) := by decide +kernel
theorem dX10_turnedOf_18 : decode t_X10_turnedOf.2.1 18 = .ok (.iload_n 3, 1) := by decide +kernel
theorem dX10_turnedOf_19 : decode t_X10_turnedOf.2.1 19 = .ok (.isub, 1) := by decide +kernel
theorem dX10_turnedOf_20 : decode t_X10_turnedOf.2.1 20 = .ok (.iconst 2, 1) := by decide +kernel
theorem dX10_turnedOf_21 : decode t_X10_turnedOf.2.1 21 = .ok (.iload_n 2, 1) := by decide +kernel
theorem dX10_turnedOf_22 : decode t_X10_turnedOf.2.1 22 = .ok (.imul, 1) := by decide +kernel
theorem dX10_turnedOf_23 : decode t_X10_turnedOf.2.1 23 = .ok (.ishl, 1) := by decide +kernel
theorem dX10_turnedOf_24 : decode t_X10_turnedOf.2.1 24 = .ok (.iadd, 1) := by decide +kernel
theorem dX10_turnedOf_25 : decode t_X10_turnedOf.2.1 25 = .ok (.ireturn, 1) := by decide +kernel
theorem wd_1539 : Cond.code yX10_layMakes cX10_layMakes 10 (none) ∈ lw_gd := List.mem_filter.mpr ⟨List.mem_of_getElem? (i := 1539) (by decide +kernel), by decide +kernel⟩
theorem wd_1538 : Cond.instanceMethod yX10_layMakes ∈ lw_gd := List.mem_filter.mpr ⟨List.mem_of_getElem? (i := 1538) (by decide +kernel), by decide +kernel⟩
theorem wd_69 : Cond.selects RX10 yX10_layMakes yX10_layMakes ∈ lw_gd := List.mem_filter.mpr ⟨List.mem_of_getElem? (i := 69) (by decide +kernel), by decide +kernel⟩
theorem vX10_layMakes : wm_calV t_X10_layMakes 3 := ⟨⟨wd_1539, wd_88, by decide +kernel, by decide +kernel, by decide +kernel⟩, wd_1538, wd_69⟩
theorem dX10_layMakes_0 : decode t_X10_layMakes.2.1 0 = .ok (.iconst 0, 1) := by decide +kernel
theorem dX10_layMakes_1 : decode t_X10_layMakes.2.1 1 = .ok (.istore 4, 2) := by decide +kernel
theorem dX10_layMakes_3 : decode t_X10_layMakes.2.1 3 = .ok (.iload 4, 2) := by decide +kernel
theorem dX10_layMakes_5 : decode t_X10_layMakes.2.1 5 = .ok (.aload_n 0, 1) := by decide +kernel
theorem dX10_layMakes_6 : decode t_X10_layMakes.2.1 6 = .ok (.invokevirtual 244, 3) := by decide +kernel
theorem iX10_layMakes_6 : wm_iv t_X10_layMakes t_X10_stateMany 6 := ⟨244, wd_1488, dX10_layMakes_6⟩
theorem dX10_layMakes_9 : decode t_X10_layMakes.2.1 9 = .ok (.if_icmp .ge 27, 3) := by decide +kernel
theorem dX10_layMakes_12 : decode t_X10_layMakes.2.1 12 = .ok (.aload_n 0, 1) := by decide +kernel
theorem dX10_layMakes_13 : decode t_X10_layMakes.2.1 13 = .ok (.getfield 71, 3) := by decide +kernel
theorem wd_1148 : Cond.fieldLink RX10 71 "TurnedStonesModel" "makes" "[Z" ∈ lw_gd := List.mem_filter.mpr ⟨List.mem_of_getElem? (i := 1148) (by decide +kernel), by decide +kernel⟩
theorem gX10_layMakes_13 : wm_gf t_X10_layMakes 13 10 34 := ⟨_, _, _, 71, rfl, by decide, wd_1148, dX10_layMakes_13⟩
theorem dX10_layMakes_16 : decode t_X10_layMakes.2.1 16 = .ok (.iload 4, 2) := by decide +kernel
theorem dX10_layMakes_18 : decode t_X10_layMakes.2.1 18 = .ok (.aload_n 0, 1) := by decide +kernel
theorem dX10_layMakes_19 : decode t_X10_layMakes.2.1 19 = .ok (.getfield 65, 3) := by decide +kernel
theorem gX10_layMakes_19 : wm_gf t_X10_layMakes 19 10 31 := ⟨_, _, _, 65, rfl, by decide, wd_1145, dX10_layMakes_19⟩
theorem dX10_layMakes_22 : decode t_X10_layMakes.2.1 22 = .ok (.iload 4, 2) := by decide +kernel
theorem dX10_layMakes_24 : decode t_X10_layMakes.2.1 24 = .ok (.iaload, 1) := by decide +kernel
theorem dX10_layMakes_25 : decode t_X10_layMakes.2.1 25 = .ok (.iload_n 1, 1) := by decide +kernel
theorem dX10_layMakes_26 : decode t_X10_layMakes.2.1 26 = .ok (.invokestatic 179, 3) := by decide +kernel
theorem iX10_layMakes_26 : wm_is t_X10_layMakes t_X10_has 26 := ⟨179, wd_1364, dX10_layMakes_26⟩
theorem dX10_layMakes_29 : decode t_X10_layMakes.2.1 29 = .ok (.bastore, 1) := by decide +kernel
theorem dX10_layMakes_30 : decode t_X10_layMakes.2.1 30 = .ok (.iinc 4 1, 3) := by decide +kernel
theorem dX10_layMakes_33 : decode t_X10_layMakes.2.1 33 = .ok (.goto (-30), 3) := by decide +kernel
theorem dX10_layMakes_36 : decode t_X10_layMakes.2.1 36 = .ok (.iload_n 3, 1) := by decide +kernel
theorem dX10_layMakes_37 : decode t_X10_layMakes.2.1 37 = .ok (.iconst 1, 1) := by decide +kernel
theorem dX10_layMakes_38 : decode t_X10_layMakes.2.1 38 = .ok (.isub, 1) := by decide +kernel
theorem dX10_layMakes_39 : decode t_X10_layMakes.2.1 39 = .ok (.istore 4, 2) := by decide +kernel
theorem dX10_layMakes_41 : decode t_X10_layMakes.2.1 41 = .ok (.iload 4, 2) := by decide +kernel
theorem dX10_layMakes_43 : decode t_X10_layMakes.2.1 43 = .ok (.iload_n 2, 1) := by decide +kernel
theorem dX10_layMakes_44 : decode t_X10_layMakes.2.1 44 = .ok (.if_icmp .lt 161, 3) := by decide +kernel
theorem dX10_layMakes_47 : decode t_X10_layMakes.2.1 47 = .ok (.iload 4, 2) := by decide +kernel
theorem dX10_layMakes_49 : decode t_X10_layMakes.2.1 49 = .ok (.iconst 2, 1) := by decide +kernel
theorem dX10_layMakes_50 : decode t_X10_layMakes.2.1 50 = .ok (.irem, 1) := by decide +kernel
theorem dX10_layMakes_51 : decode t_X10_layMakes.2.1 51 = .ok (.ifCond .ne 7, 3) := by decide +kernel
theorem dX10_layMakes_54 : decode t_X10_layMakes.2.1 54 = .ok (.iconst 1, 1) := by decide +kernel
theorem dX10_layMakes_55 : decode t_X10_layMakes.2.1 55 = .ok (.goto 4, 3) := by decide +kernel
theorem dX10_layMakes_58 : decode t_X10_layMakes.2.1 58 = .ok (.iconst 0, 1) := by decide +kernel
theorem dX10_layMakes_59 : decode t_X10_layMakes.2.1 59 = .ok (.istore 5, 2) := by decide +kernel
theorem dX10_layMakes_61 : decode t_X10_layMakes.2.1 61 = .ok (.iconst 0, 1) := by decide +kernel
theorem dX10_layMakes_62 : decode t_X10_layMakes.2.1 62 = .ok (.istore 6, 2) := by decide +kernel
theorem dX10_layMakes_64 : decode t_X10_layMakes.2.1 64 = .ok (.iload 6, 2) := by decide +kernel
theorem dX10_layMakes_66 : decode t_X10_layMakes.2.1 66 = .ok (.aload_n 0, 1) := by decide +kernel
theorem dX10_layMakes_67 : decode t_X10_layMakes.2.1 67 = .ok (.invokevirtual 244, 3) := by decide +kernel
theorem iX10_layMakes_67 : wm_iv t_X10_layMakes t_X10_stateMany 67 := ⟨244, wd_1488, dX10_layMakes_67⟩
theorem dX10_layMakes_70 : decode t_X10_layMakes.2.1 70 = .ok (.if_icmp .ge 109, 3) := by decide +kernel
theorem dX10_layMakes_73 : decode t_X10_layMakes.2.1 73 = .ok (.aload_n 0, 1) := by decide +kernel
theorem dX10_layMakes_74 : decode t_X10_layMakes.2.1 74 = .ok (.getfield 71, 3) := by decide +kernel
theorem gX10_layMakes_74 : wm_gf t_X10_layMakes 74 10 34 := ⟨_, _, _, 71, rfl, by decide, wd_1148, dX10_layMakes_74⟩
theorem dX10_layMakes_77 : decode t_X10_layMakes.2.1 77 = .ok (.iload 6, 2) := by decide +kernel
theorem dX10_layMakes_79 : decode t_X10_layMakes.2.1 79 = .ok (.baload, 1) := by decide +kernel
theorem dX10_layMakes_80 : decode t_X10_layMakes.2.1 80 = .ok (.istore 7, 2) := by decide +kernel
theorem dX10_layMakes_82 : decode t_X10_layMakes.2.1 82 = .ok (.iconst 0, 1) := by decide +kernel
theorem dX10_layMakes_83 : decode t_X10_layMakes.2.1 83 = .ok (.istore 8, 2) := by decide +kernel
theorem dX10_layMakes_85 : decode t_X10_layMakes.2.1 85 = .ok (.iload 8, 2) := by decide +kernel
theorem dX10_layMakes_87 : decode t_X10_layMakes.2.1 87 = .ok (.aload_n 0, 1) := by decide +kernel
theorem dX10_layMakes_88 : decode t_X10_layMakes.2.1 88 = .ok (.getfield 164, 3) := by decide +kernel
theorem gX10_layMakes_88 : wm_gf t_X10_layMakes 88 10 12 := ⟨_, _, _, 164, rfl, by decide, wd_1126, dX10_layMakes_88⟩
theorem dX10_layMakes_91 : decode t_X10_layMakes.2.1 91 = .ok (.if_icmp .ge 73, 3) := by decide +kernel
theorem dX10_layMakes_94 : decode t_X10_layMakes.2.1 94 = .ok (.aload_n 0, 1) := by decide +kernel
theorem dX10_layMakes_95 : decode t_X10_layMakes.2.1 95 = .ok (.iload 8, 2) := by decide +kernel
theorem dX10_layMakes_97 : decode t_X10_layMakes.2.1 97 = .ok (.invokevirtual 234, 3) := by decide +kernel
theorem iX10_layMakes_97 : wm_iv t_X10_layMakes t_X10_isFixed 97 := ⟨234, wd_1441, dX10_layMakes_97⟩
theorem dX10_layMakes_100 : decode t_X10_layMakes.2.1 100 = .ok (.ifCond .ne 58, 3) := by decide +kernel
theorem dX10_layMakes_103 : decode t_X10_layMakes.2.1 103 = .ok (.aload_n 0, 1) := by decide +kernel
theorem dX10_layMakes_104 : decode t_X10_layMakes.2.1 104 = .ok (.getfield 71, 3) := by decide +kernel
theorem gX10_layMakes_104 : wm_gf t_X10_layMakes 104 10 34 := ⟨_, _, _, 71, rfl, by decide, wd_1148, dX10_layMakes_104⟩
theorem dX10_layMakes_107 : decode t_X10_layMakes.2.1 107 = .ok (.aload_n 0, 1) := by decide +kernel
theorem dX10_layMakes_108 : decode t_X10_layMakes.2.1 108 = .ok (.iload 6, 2) := by decide +kernel
theorem dX10_layMakes_110 : decode t_X10_layMakes.2.1 110 = .ok (.iload 8, 2) := by decide +kernel
theorem dX10_layMakes_112 : decode t_X10_layMakes.2.1 112 = .ok (.invokevirtual 276, 3) := by decide +kernel
theorem wd_1540 : Cond.methodLink RX10 276 yX10_turnedOf ∈ lw_gd := List.mem_filter.mpr ⟨List.mem_of_getElem? (i := 1540) (by decide +kernel), by decide +kernel⟩
theorem iX10_layMakes_112 : wm_iv t_X10_layMakes t_X10_turnedOf 112 := ⟨276, wd_1540, dX10_layMakes_112⟩
theorem dX10_layMakes_115 : decode t_X10_layMakes.2.1 115 = .ok (.baload, 1) := by decide +kernel
theorem dX10_layMakes_116 : decode t_X10_layMakes.2.1 116 = .ok (.istore 9, 2) := by decide +kernel
theorem dX10_layMakes_118 : decode t_X10_layMakes.2.1 118 = .ok (.iload 5, 2) := by decide +kernel
theorem dX10_layMakes_120 : decode t_X10_layMakes.2.1 120 = .ok (.ifCond .eq 21, 3) := by decide +kernel
theorem dX10_layMakes_123 : decode t_X10_layMakes.2.1 123 = .ok (.iload 7, 2) := by decide +kernel
theorem dX10_layMakes_125 : decode t_X10_layMakes.2.1 125 = .ok (.ifCond .ne 8, 3) := by decide +kernel
theorem dX10_layMakes_128 : decode t_X10_layMakes.2.1 128 = .ok (.iload 9, 2) := by decide +kernel
theorem dX10_layMakes_130 : decode t_X10_layMakes.2.1 130 = .ok (.ifCond .eq 7, 3) := by decide +kernel
theorem dX10_layMakes_133 : decode t_X10_layMakes.2.1 133 = .ok (.iconst 1, 1) := by decide +kernel
theorem dX10_layMakes_134 : decode t_X10_layMakes.2.1 134 = .ok (.goto 22, 3) := by decide +kernel
theorem dX10_layMakes_137 : decode t_X10_layMakes.2.1 137 = .ok (.iconst 0, 1) := by decide +kernel
theorem dX10_layMakes_138 : decode t_X10_layMakes.2.1 138 = .ok (.goto 18, 3) := by decide +kernel
theorem dX10_layMakes_141 : decode t_X10_layMakes.2.1 141 = .ok (.iload 7, 2) := by decide +kernel
theorem dX10_layMakes_143 : decode t_X10_layMakes.2.1 143 = .ok (.ifCond .eq 12, 3) := by decide +kernel
theorem dX10_layMakes_146 : decode t_X10_layMakes.2.1 146 = .ok (.iload 9, 2) := by decide +kernel
theorem dX10_layMakes_148 : decode t_X10_layMakes.2.1 148 = .ok (.ifCond .eq 7, 3) := by decide +kernel
theorem dX10_layMakes_151 : decode t_X10_layMakes.2.1 151 = .ok (.iconst 1, 1) := by decide +kernel
theorem dX10_layMakes_152 : decode t_X10_layMakes.2.1 152 = .ok (.goto 4, 3) := by decide +kernel
theorem dX10_layMakes_155 : decode t_X10_layMakes.2.1 155 = .ok (.iconst 0, 1) := by decide +kernel
theorem dX10_layMakes_156 : decode t_X10_layMakes.2.1 156 = .ok (.istore 7, 2) := by decide +kernel
theorem dX10_layMakes_158 : decode t_X10_layMakes.2.1 158 = .ok (.iinc 8 1, 3) := by decide +kernel
theorem dX10_layMakes_161 : decode t_X10_layMakes.2.1 161 = .ok (.goto (-76), 3) := by decide +kernel
theorem dX10_layMakes_164 : decode t_X10_layMakes.2.1 164 = .ok (.aload_n 0, 1) := by decide +kernel
theorem dX10_layMakes_165 : decode t_X10_layMakes.2.1 165 = .ok (.getfield 75, 3) := by decide +kernel
theorem wd_1149 : Cond.fieldLink RX10 75 "TurnedStonesModel" "makesThen" "[Z" ∈ lw_gd := List.mem_filter.mpr ⟨List.mem_of_getElem? (i := 1149) (by decide +kernel), by decide +kernel⟩
theorem gX10_layMakes_165 : wm_gf t_X10_layMakes 165 10 35 := ⟨_, _, _, 75, rfl, by decide, wd_1149, dX10_layMakes_165⟩
theorem dX10_layMakes_168 : decode t_X10_layMakes.2.1 168 = .ok (.iload 6, 2) := by decide +kernel
theorem dX10_layMakes_170 : decode t_X10_layMakes.2.1 170 = .ok (.iload 7, 2) := by decide +kernel
theorem dX10_layMakes_172 : decode t_X10_layMakes.2.1 172 = .ok (.bastore, 1) := by decide +kernel
theorem dX10_layMakes_173 : decode t_X10_layMakes.2.1 173 = .ok (.iinc 6 1, 3) := by decide +kernel
theorem dX10_layMakes_176 : decode t_X10_layMakes.2.1 176 = .ok (.goto (-112), 3) := by decide +kernel
theorem dX10_layMakes_179 : decode t_X10_layMakes.2.1 179 = .ok (.aload_n 0, 1) := by decide +kernel
theorem dX10_layMakes_180 : decode t_X10_layMakes.2.1 180 = .ok (.getfield 71, 3) := by decide +kernel
theorem gX10_layMakes_180 : wm_gf t_X10_layMakes 180 10 34 := ⟨_, _, _, 71, rfl, by decide, wd_1148, dX10_layMakes_180⟩
theorem dX10_layMakes_183 : decode t_X10_layMakes.2.1 183 = .ok (.astore 6, 2) := by decide +kernel
theorem dX10_layMakes_185 : decode t_X10_layMakes.2.1 185 = .ok (.aload_n 0, 1) := by decide +kernel
theorem dX10_layMakes_186 : decode t_X10_layMakes.2.1 186 = .ok (.aload_n 0, 1) := by decide +kernel
theorem dX10_layMakes_187 : decode t_X10_layMakes.2.1 187 = .ok (.getfield 75, 3) := by decide +kernel
theorem gX10_layMakes_187 : wm_gf t_X10_layMakes 187 10 35 := ⟨_, _, _, 75, rfl, by decide, wd_1149, dX10_layMakes_187⟩
theorem dX10_layMakes_190 : decode t_X10_layMakes.2.1 190 = .ok (.putfield 71, 3) := by decide +kernel
theorem gX10_layMakes_190 : wm_pf t_X10_layMakes 190 10 34 (.array .boolean) := ⟨_, _, _, 71, rfl, by decide, wd_1148, dX10_layMakes_190, rfl, by decide +kernel⟩
theorem dX10_layMakes_193 : decode t_X10_layMakes.2.1 193 = .ok (.aload_n 0, 1) := by decide +kernel
theorem dX10_layMakes_194 : decode t_X10_layMakes.2.1 194 = .ok (.aload 6, 2) := by decide +kernel
theorem dX10_layMakes_196 : decode t_X10_layMakes.2.1 196 = .ok (.putfield 75, 3) := by decide +kernel
theorem gX10_layMakes_196 : wm_pf t_X10_layMakes 196 10 35 (.array .boolean) := ⟨_, _, _, 75, rfl, by decide, wd_1149, dX10_layMakes_196, rfl, by decide +kernel⟩
theorem dX10_layMakes_199 : decode t_X10_layMakes.2.1 199 = .ok (.iinc 4 (-1), 3) := by decide +kernel
theorem dX10_layMakes_202 : decode t_X10_layMakes.2.1 202 = .ok (.goto (-161), 3) := by decide +kernel
theorem dX10_layMakes_205 : decode t_X10_layMakes.2.1 205 = .ok (.return_, 1) := by decide +kernel
theorem wd_1535 : Cond.code yX10_contest cX10_contest 7 (some .int) ∈ lw_gd := List.mem_filter.mpr ⟨List.mem_of_getElem? (i := 1535) (by decide +kernel), by decide +kernel⟩
theorem wd_1533 : Cond.instanceMethod yX10_contest ∈ lw_gd := List.mem_filter.mpr ⟨List.mem_of_getElem? (i := 1533) (by decide +kernel), by decide +kernel⟩
theorem wd_1534 : Cond.selects RX10 yX10_contest yX10_contest ∈ lw_gd := List.mem_filter.mpr ⟨List.mem_of_getElem? (i := 1534) (by decide +kernel), by decide +kernel⟩
theorem vX10_contest : wm_calV t_X10_contest 2 := ⟨⟨wd_1535, wd_88, by decide +kernel, by decide +kernel, by decide +kernel⟩, wd_1533, wd_1534⟩
theorem dX10_contest_0 : decode t_X10_contest.2.1 0 = .ok (.iload_n 1, 1) := by decide +kernel
theorem dX10_contest_1 : decode t_X10_contest.2.1 1 = .ok (.invokestatic 189, 3) := by decide +kernel
theorem iX10_contest_1 : wm_is t_X10_contest t_X10_isLaw 1 := ⟨189, wd_1374, dX10_contest_1⟩
theorem dX10_contest_4 : decode t_X10_contest.2.1 4 = .ok (.ifCond .eq 13, 3) := by decide +kernel
theorem dX10_contest_7 : decode t_X10_contest.2.1 7 = .ok (.iload_n 2, 1) := by decide +kernel
theorem dX10_contest_8 : decode t_X10_contest.2.1 8 = .ok (.iconst 0, 1) := by decide +kernel
theorem dX10_contest_9 : decode t_X10_contest.2.1 9 = .ok (.bipush 12, 2) := by decide +kernel
theorem dX10_contest_11 : decode t_X10_contest.2.1 11 = .ok (.invokestatic 97, 3) := by decide +kernel
theorem iX10_contest_11 : wm_is t_X10_contest t_X10_in 11 := ⟨97, wd_1248, dX10_contest_11⟩
theorem dX10_contest_14 : decode t_X10_contest.2.1 14 = .ok (.ifCond .ne 5, 3) := by decide +kernel
theorem dX10_contest_17 : decode t_X10_contest.2.1 17 = .ok (.iconst (-1), 1) := by decide +kernel
theorem dX10_contest_18 : decode t_X10_contest.2.1 18 = .ok (.ireturn, 1) := by decide +kernel
theorem dX10_contest_19 : decode t_X10_contest.2.1 19 = .ok (.aload_n 0, 1) := by decide +kernel
theorem dX10_contest_20 : decode t_X10_contest.2.1 20 = .ok (.getfield 47, 3) := by decide +kernel
theorem gX10_contest_20 : wm_gf t_X10_contest 20 10 25 := ⟨_, _, _, 47, rfl, by decide, wd_1139, dX10_contest_20⟩
theorem dX10_contest_23 : decode t_X10_contest.2.1 23 = .ok (.iload_n 1, 1) := by decide +kernel
theorem dX10_contest_24 : decode t_X10_contest.2.1 24 = .ok (.iaload, 1) := by decide +kernel
theorem dX10_contest_25 : decode t_X10_contest.2.1 25 = .ok (.ifCond .ge 9, 3) := by decide +kernel
theorem dX10_contest_28 : decode t_X10_contest.2.1 28 = .ok (.aload_n 0, 1) := by decide +kernel
theorem dX10_contest_29 : decode t_X10_contest.2.1 29 = .ok (.iconst 1, 1) := by decide +kernel
theorem dX10_contest_30 : decode t_X10_contest.2.1 30 = .ok (.invokevirtual 111, 3) := by decide +kernel
theorem iX10_contest_30 : wm_iv t_X10_contest t_X10_meets 30 := ⟨111, wd_1270, dX10_contest_30⟩
theorem dX10_contest_33 : decode t_X10_contest.2.1 33 = .ok (.ireturn, 1) := by decide +kernel
theorem dX10_contest_34 : decode t_X10_contest.2.1 34 = .ok (.aload_n 0, 1) := by decide +kernel
theorem dX10_contest_35 : decode t_X10_contest.2.1 35 = .ok (.iconst 1, 1) := by decide +kernel
theorem dX10_contest_36 : decode t_X10_contest.2.1 36 = .ok (.invokevirtual 256, 3) := by decide +kernel
theorem iX10_contest_36 : wm_iv t_X10_contest t_X10_layStands 36 := ⟨256, wd_1496, dX10_contest_36⟩
theorem dX10_contest_39 : decode t_X10_contest.2.1 39 = .ok (.aload_n 0, 1) := by decide +kernel
theorem dX10_contest_40 : decode t_X10_contest.2.1 40 = .ok (.invokevirtual 241, 3) := by decide +kernel
theorem iX10_contest_40 : wm_iv t_X10_contest t_X10_stateNow 40 := ⟨241, wd_1461, dX10_contest_40⟩
theorem dX10_contest_43 : decode t_X10_contest.2.1 43 = .ok (.istore_n 3, 1) := by decide +kernel
theorem dX10_contest_44 : decode t_X10_contest.2.1 44 = .ok (.aload_n 0, 1) := by decide +kernel
theorem dX10_contest_45 : decode t_X10_contest.2.1 45 = .ok (.iload_n 1, 1) := by decide +kernel
theorem dX10_contest_46 : decode t_X10_contest.2.1 46 = .ok (.iconst 0, 1) := by decide +kernel
theorem dX10_contest_47 : decode t_X10_contest.2.1 47 = .ok (.iload_n 2, 1) := by decide +kernel
theorem dX10_contest_48 : decode t_X10_contest.2.1 48 = .ok (.invokevirtual 279, 3) := by decide +kernel
theorem wd_1536 : Cond.methodLink RX10 279 yX10_layMakes ∈ lw_gd := List.mem_filter.mpr ⟨List.mem_of_getElem? (i := 1536) (by decide +kernel), by decide +kernel⟩
theorem iX10_contest_48 : wm_iv t_X10_contest t_X10_layMakes 48 := ⟨279, wd_1536, dX10_contest_48⟩
theorem dX10_contest_51 : decode t_X10_contest.2.1 51 = .ok (.aload_n 0, 1) := by decide +kernel
theorem dX10_contest_52 : decode t_X10_contest.2.1 52 = .ok (.getfield 71, 3) := by decide +kernel
theorem gX10_contest_52 : wm_gf t_X10_contest 52 10 34 := ⟨_, _, _, 71, rfl, by decide, wd_1148, dX10_contest_52⟩
theorem dX10_contest_55 : decode t_X10_contest.2.1 55 = .ok (.iload_n 3, 1) := by decide +kernel
theorem dX10_contest_56 : decode t_X10_contest.2.1 56 = .ok (.baload, 1) := by decide +kernel
theorem dX10_contest_57 : decode t_X10_contest.2.1 57 = .ok (.istore 4, 2) := by decide +kernel
theorem dX10_contest_59 : decode t_X10_contest.2.1 59 = .ok (.bipush (-9), 2) := by decide +kernel
theorem dX10_contest_61 : decode t_X10_contest.2.1 61 = .ok (.istore 5, 2) := by decide +kernel
theorem dX10_contest_63 : decode t_X10_contest.2.1 63 = .ok (.iload 4, 2) := by decide +kernel
theorem dX10_contest_65 : decode t_X10_contest.2.1 65 = .ok (.ifCond .eq 66, 3) := by decide +kernel
theorem dX10_contest_68 : decode t_X10_contest.2.1 68 = .ok (.iload_n 2, 1) := by decide +kernel
theorem dX10_contest_69 : decode t_X10_contest.2.1 69 = .ok (.ifCond .le 62, 3) := by decide +kernel
theorem dX10_contest_72 : decode t_X10_contest.2.1 72 = .ok (.aload_n 0, 1) := by decide +kernel
theorem dX10_contest_73 : decode t_X10_contest.2.1 73 = .ok (.iload_n 1, 1) := by decide +kernel
theorem dX10_contest_74 : decode t_X10_contest.2.1 74 = .ok (.iconst 1, 1) := by decide +kernel
theorem dX10_contest_75 : decode t_X10_contest.2.1 75 = .ok (.iload_n 2, 1) := by decide +kernel
theorem dX10_contest_76 : decode t_X10_contest.2.1 76 = .ok (.invokevirtual 279, 3) := by decide +kernel
theorem iX10_contest_76 : wm_iv t_X10_contest t_X10_layMakes 76 := ⟨279, wd_1536, dX10_contest_76⟩
theorem dX10_contest_79 : decode t_X10_contest.2.1 79 = .ok (.aload_n 0, 1) := by decide +kernel
theorem dX10_contest_80 : decode t_X10_contest.2.1 80 = .ok (.getfield 164, 3) := by decide +kernel
theorem gX10_contest_80 : wm_gf t_X10_contest 80 10 12 := ⟨_, _, _, 164, rfl, by decide, wd_1126, dX10_contest_80⟩
theorem dX10_contest_83 : decode t_X10_contest.2.1 83 = .ok (.iconst 1, 1) := by decide +kernel
theorem dX10_contest_84 : decode t_X10_contest.2.1 84 = .ok (.isub, 1) := by decide +kernel
theorem dX10_contest_85 : decode t_X10_contest.2.1 85 = .ok (.istore 6, 2) := by decide +kernel
theorem dX10_contest_87 : decode t_X10_contest.2.1 87 = .ok (.iload 6, 2) := by decide +kernel
theorem dX10_contest_89 : decode t_X10_contest.2.1 89 = .ok (.ifCond .lt 42, 3) := by decide +kernel
theorem dX10_contest_92 : decode t_X10_contest.2.1 92 = .ok (.aload_n 0, 1) := by decide +kernel
theorem dX10_contest_93 : decode t_X10_contest.2.1 93 = .ok (.iload 6, 2) := by decide +kernel
theorem dX10_contest_95 : decode t_X10_contest.2.1 95 = .ok (.invokevirtual 234, 3) := by decide +kernel
theorem iX10_contest_95 : wm_iv t_X10_contest t_X10_isFixed 95 := ⟨234, wd_1441, dX10_contest_95⟩
theorem dX10_contest_98 : decode t_X10_contest.2.1 98 = .ok (.ifCond .ne 23, 3) := by decide +kernel
theorem dX10_contest_101 : decode t_X10_contest.2.1 101 = .ok (.aload_n 0, 1) := by decide +kernel
theorem dX10_contest_102 : decode t_X10_contest.2.1 102 = .ok (.getfield 71, 3) := by decide +kernel
theorem gX10_contest_102 : wm_gf t_X10_contest 102 10 34 := ⟨_, _, _, 71, rfl, by decide, wd_1148, dX10_contest_102⟩
theorem dX10_contest_105 : decode t_X10_contest.2.1 105 = .ok (.aload_n 0, 1) := by decide +kernel
theorem dX10_contest_106 : decode t_X10_contest.2.1 106 = .ok (.iload_n 3, 1) := by decide +kernel
theorem dX10_contest_107 : decode t_X10_contest.2.1 107 = .ok (.iload 6, 2) := by decide +kernel
theorem dX10_contest_109 : decode t_X10_contest.2.1 109 = .ok (.invokevirtual 276, 3) := by decide +kernel
theorem iX10_contest_109 : wm_iv t_X10_contest t_X10_turnedOf 109 := ⟨276, wd_1540, dX10_contest_109⟩
theorem dX10_contest_112 : decode t_X10_contest.2.1 112 = .ok (.baload, 1) := by decide +kernel
theorem dX10_contest_113 : decode t_X10_contest.2.1 113 = .ok (.ifCond .eq 8, 3) := by decide +kernel
theorem dX10_contest_116 : decode t_X10_contest.2.1 116 = .ok (.iload 6, 2) := by decide +kernel
theorem dX10_contest_118 : decode t_X10_contest.2.1 118 = .ok (.goto 5, 3) := by decide +kernel
theorem dX10_contest_121 : decode t_X10_contest.2.1 121 = .ok (.iload 5, 2) := by decide +kernel
theorem dX10_contest_123 : decode t_X10_contest.2.1 123 = .ok (.istore 5, 2) := by decide +kernel
theorem dX10_contest_125 : decode t_X10_contest.2.1 125 = .ok (.iinc 6 (-1), 3) := by decide +kernel
theorem dX10_contest_128 : decode t_X10_contest.2.1 128 = .ok (.goto (-41), 3) := by decide +kernel
theorem dX10_contest_131 : decode t_X10_contest.2.1 131 = .ok (.aload_n 0, 1) := by decide +kernel
theorem dX10_contest_132 : decode t_X10_contest.2.1 132 = .ok (.iload 5, 2) := by decide +kernel
theorem dX10_contest_134 : decode t_X10_contest.2.1 134 = .ok (.iload 4, 2) := by decide +kernel
theorem dX10_contest_136 : decode t_X10_contest.2.1 136 = .ok (.ifCond .eq 7, 3) := by decide +kernel
theorem dX10_contest_139 : decode t_X10_contest.2.1 139 = .ok (.iconst 1, 1) := by decide +kernel
theorem dX10_contest_140 : decode t_X10_contest.2.1 140 = .ok (.goto 4, 3) := by decide +kernel
theorem dX10_contest_143 : decode t_X10_contest.2.1 143 = .ok (.iconst 0, 1) := by decide +kernel
theorem dX10_contest_144 : decode t_X10_contest.2.1 144 = .ok (.invokevirtual 119, 3) := by decide +kernel
theorem iX10_contest_144 : wm_iv t_X10_contest t_X10_tells 144 := ⟨119, wd_1282, dX10_contest_144⟩
theorem dX10_contest_147 : decode t_X10_contest.2.1 147 = .ok (.ireturn, 1) := by decide +kernel
theorem wd_1547 : Cond.code yX10_engrave cX10_engrave 8 (some .int) ∈ lw_gd := List.mem_filter.mpr ⟨List.mem_of_getElem? (i := 1547) (by decide +kernel), by decide +kernel⟩
theorem wd_1545 : Cond.instanceMethod yX10_engrave ∈ lw_gd := List.mem_filter.mpr ⟨List.mem_of_getElem? (i := 1545) (by decide +kernel), by decide +kernel⟩
theorem wd_1546 : Cond.selects RX10 yX10_engrave yX10_engrave ∈ lw_gd := List.mem_filter.mpr ⟨List.mem_of_getElem? (i := 1546) (by decide +kernel), by decide +kernel⟩
theorem vX10_engrave : wm_calV t_X10_engrave 4 := ⟨⟨wd_1547, wd_88, by decide +kernel, by decide +kernel, by decide +kernel⟩, wd_1545, wd_1546⟩
theorem dX10_engrave_0 : decode t_X10_engrave.2.1 0 = .ok (.iload_n 1, 1) := by decide +kernel
theorem dX10_engrave_1 : decode t_X10_engrave.2.1 1 = .ok (.iconst 0, 1) := by decide +kernel
theorem dX10_engrave_2 : decode t_X10_engrave.2.1 2 = .ok (.bipush 9, 2) := by decide +kernel
theorem dX10_engrave_4 : decode t_X10_engrave.2.1 4 = .ok (.invokestatic 97, 3) := by decide +kernel
theorem iX10_engrave_4 : wm_is t_X10_engrave t_X10_in 4 := ⟨97, wd_1248, dX10_engrave_4⟩
theorem dX10_engrave_7 : decode t_X10_engrave.2.1 7 = .ok (.ifCond .eq 28, 3) := by decide +kernel
theorem dX10_engrave_10 : decode t_X10_engrave.2.1 10 = .ok (.aload_n 0, 1) := by decide +kernel
theorem dX10_engrave_11 : decode t_X10_engrave.2.1 11 = .ok (.iload_n 2, 1) := by decide +kernel
theorem dX10_engrave_12 : decode t_X10_engrave.2.1 12 = .ok (.invokevirtual 222, 3) := by decide +kernel
theorem iX10_engrave_12 : wm_iv t_X10_engrave t_X10_isStreet 12 := ⟨222, wd_1381, dX10_engrave_12⟩
theorem dX10_engrave_15 : decode t_X10_engrave.2.1 15 = .ok (.ifCond .eq 20, 3) := by decide +kernel
theorem dX10_engrave_18 : decode t_X10_engrave.2.1 18 = .ok (.iload_n 3, 1) := by decide +kernel
theorem dX10_engrave_19 : decode t_X10_engrave.2.1 19 = .ok (.iconst 0, 1) := by decide +kernel
theorem dX10_engrave_20 : decode t_X10_engrave.2.1 20 = .ok (.iconst 1, 1) := by decide +kernel
theorem dX10_engrave_21 : decode t_X10_engrave.2.1 21 = .ok (.invokestatic 97, 3) := by decide +kernel
theorem iX10_engrave_21 : wm_is t_X10_engrave t_X10_in 21 := ⟨97, wd_1248, dX10_engrave_21⟩
theorem dX10_engrave_24 : decode t_X10_engrave.2.1 24 = .ok (.ifCond .eq 11, 3) := by decide +kernel
theorem dX10_engrave_27 : decode t_X10_engrave.2.1 27 = .ok (.iload 4, 2) := by decide +kernel
theorem dX10_engrave_29 : decode t_X10_engrave.2.1 29 = .ok (.invokestatic 107, 3) := by decide +kernel
theorem iX10_engrave_29 : wm_is t_X10_engrave t_X10_isRow 29 := ⟨107, wd_1267, dX10_engrave_29⟩
theorem dX10_engrave_32 : decode t_X10_engrave.2.1 32 = .ok (.ifCond .ne 5, 3) := by decide +kernel
theorem dX10_engrave_35 : decode t_X10_engrave.2.1 35 = .ok (.iconst (-1), 1) := by decide +kernel
theorem dX10_engrave_36 : decode t_X10_engrave.2.1 36 = .ok (.ireturn, 1) := by decide +kernel
theorem dX10_engrave_37 : decode t_X10_engrave.2.1 37 = .ok (.aload_n 0, 1) := by decide +kernel
theorem dX10_engrave_38 : decode t_X10_engrave.2.1 38 = .ok (.getfield 13, 3) := by decide +kernel
theorem gX10_engrave_38 : wm_gf t_X10_engrave 38 10 5 := ⟨_, _, _, 13, rfl, by decide, wd_1119, dX10_engrave_38⟩
theorem dX10_engrave_41 : decode t_X10_engrave.2.1 41 = .ok (.iload 4, 2) := by decide +kernel
theorem dX10_engrave_43 : decode t_X10_engrave.2.1 43 = .ok (.iaload, 1) := by decide +kernel
theorem dX10_engrave_44 : decode t_X10_engrave.2.1 44 = .ok (.ifCond .ge 9, 3) := by decide +kernel
theorem dX10_engrave_47 : decode t_X10_engrave.2.1 47 = .ok (.aload_n 0, 1) := by decide +kernel
theorem dX10_engrave_48 : decode t_X10_engrave.2.1 48 = .ok (.iconst 1, 1) := by decide +kernel
theorem dX10_engrave_49 : decode t_X10_engrave.2.1 49 = .ok (.invokevirtual 111, 3) := by decide +kernel
theorem iX10_engrave_49 : wm_iv t_X10_engrave t_X10_meets 49 := ⟨111, wd_1270, dX10_engrave_49⟩
theorem dX10_engrave_52 : decode t_X10_engrave.2.1 52 = .ok (.ireturn, 1) := by decide +kernel
theorem dX10_engrave_53 : decode t_X10_engrave.2.1 53 = .ok (.aload_n 0, 1) := by decide +kernel
theorem dX10_engrave_54 : decode t_X10_engrave.2.1 54 = .ok (.getfield 13, 3) := by decide +kernel
theorem gX10_engrave_54 : wm_gf t_X10_engrave 54 10 5 := ⟨_, _, _, 13, rfl, by decide, wd_1119, dX10_engrave_54⟩
theorem dX10_engrave_57 : decode t_X10_engrave.2.1 57 = .ok (.iload 4, 2) := by decide +kernel
theorem dX10_engrave_59 : decode t_X10_engrave.2.1 59 = .ok (.iaload, 1) := by decide +kernel
theorem dX10_engrave_60 : decode t_X10_engrave.2.1 60 = .ok (.aload_n 0, 1) := by decide +kernel
theorem dX10_engrave_61 : decode t_X10_engrave.2.1 61 = .ok (.iload_n 2, 1) := by decide +kernel
theorem dX10_engrave_62 : decode t_X10_engrave.2.1 62 = .ok (.invokevirtual 196, 3) := by decide +kernel
theorem iX10_engrave_62 : wm_iv t_X10_engrave t_X10_longOf 62 := ⟨196, wd_1393, dX10_engrave_62⟩
theorem dX10_engrave_65 : decode t_X10_engrave.2.1 65 = .ok (.if_icmp .eq 9, 3) := by decide +kernel
theorem dX10_engrave_68 : decode t_X10_engrave.2.1 68 = .ok (.aload_n 0, 1) := by decide +kernel
theorem dX10_engrave_69 : decode t_X10_engrave.2.1 69 = .ok (.iconst 5, 1) := by decide +kernel
theorem dX10_engrave_70 : decode t_X10_engrave.2.1 70 = .ok (.invokevirtual 111, 3) := by decide +kernel
theorem iX10_engrave_70 : wm_iv t_X10_engrave t_X10_meets 70 := ⟨111, wd_1270, dX10_engrave_70⟩
theorem dX10_engrave_73 : decode t_X10_engrave.2.1 73 = .ok (.ireturn, 1) := by decide +kernel
theorem dX10_engrave_74 : decode t_X10_engrave.2.1 74 = .ok (.iconst 1, 1) := by decide +kernel
theorem dX10_engrave_75 : decode t_X10_engrave.2.1 75 = .ok (.istore 5, 2) := by decide +kernel
theorem dX10_engrave_77 : decode t_X10_engrave.2.1 77 = .ok (.iconst 0, 1) := by decide +kernel
theorem dX10_engrave_78 : decode t_X10_engrave.2.1 78 = .ok (.istore 6, 2) := by decide +kernel
theorem dX10_engrave_80 : decode t_X10_engrave.2.1 80 = .ok (.iload 6, 2) := by decide +kernel
theorem dX10_engrave_82 : decode t_X10_engrave.2.1 82 = .ok (.aload_n 0, 1) := by decide +kernel
theorem dX10_engrave_83 : decode t_X10_engrave.2.1 83 = .ok (.getfield 13, 3) := by decide +kernel
theorem gX10_engrave_83 : wm_gf t_X10_engrave 83 10 5 := ⟨_, _, _, 13, rfl, by decide, wd_1119, dX10_engrave_83⟩
theorem dX10_engrave_86 : decode t_X10_engrave.2.1 86 = .ok (.iload 4, 2) := by decide +kernel
theorem dX10_engrave_88 : decode t_X10_engrave.2.1 88 = .ok (.iaload, 1) := by decide +kernel
theorem dX10_engrave_89 : decode t_X10_engrave.2.1 89 = .ok (.if_icmp .ge 38, 3) := by decide +kernel
theorem dX10_engrave_92 : decode t_X10_engrave.2.1 92 = .ok (.iload 5, 2) := by decide +kernel
theorem dX10_engrave_94 : decode t_X10_engrave.2.1 94 = .ok (.ifCond .eq 24, 3) := by decide +kernel
theorem dX10_engrave_97 : decode t_X10_engrave.2.1 97 = .ok (.aload_n 0, 1) := by decide +kernel
theorem dX10_engrave_98 : decode t_X10_engrave.2.1 98 = .ok (.iload 4, 2) := by decide +kernel
theorem dX10_engrave_100 : decode t_X10_engrave.2.1 100 = .ok (.iload 6, 2) := by decide +kernel
theorem dX10_engrave_102 : decode t_X10_engrave.2.1 102 = .ok (.invokevirtual 115, 3) := by decide +kernel
theorem iX10_engrave_102 : wm_iv t_X10_engrave t_X10_rowAt 102 := ⟨115, wd_1278, dX10_engrave_102⟩
theorem dX10_engrave_105 : decode t_X10_engrave.2.1 105 = .ok (.iconst (-1), 1) := by decide +kernel
theorem dX10_engrave_106 : decode t_X10_engrave.2.1 106 = .ok (.bipush 7, 2) := by decide +kernel
theorem dX10_engrave_108 : decode t_X10_engrave.2.1 108 = .ok (.invokestatic 97, 3) := by decide +kernel
theorem iX10_engrave_108 : wm_is t_X10_engrave t_X10_in 108 := ⟨97, wd_1248, dX10_engrave_108⟩
theorem dX10_engrave_111 : decode t_X10_engrave.2.1 111 = .ok (.ifCond .eq 7, 3) := by decide +kernel
theorem dX10_engrave_114 : decode t_X10_engrave.2.1 114 = .ok (.iconst 1, 1) := by decide +kernel
theorem dX10_engrave_115 : decode t_X10_engrave.2.1 115 = .ok (.goto 4, 3) := by decide +kernel
theorem dX10_engrave_118 : decode t_X10_engrave.2.1 118 = .ok (.iconst 0, 1) := by decide +kernel
theorem dX10_engrave_119 : decode t_X10_engrave.2.1 119 = .ok (.istore 5, 2) := by decide +kernel
theorem dX10_engrave_121 : decode t_X10_engrave.2.1 121 = .ok (.iinc 6 1, 3) := by decide +kernel
theorem dX10_engrave_124 : decode t_X10_engrave.2.1 124 = .ok (.goto (-44), 3) := by decide +kernel
theorem dX10_engrave_127 : decode t_X10_engrave.2.1 127 = .ok (.iload 5, 2) := by decide +kernel
theorem dX10_engrave_129 : decode t_X10_engrave.2.1 129 = .ok (.ifCond .ne 9, 3) := by decide +kernel
theorem dX10_engrave_132 : decode t_X10_engrave.2.1 132 = .ok (.aload_n 0, 1) := by decide +kernel
theorem dX10_engrave_133 : decode t_X10_engrave.2.1 133 = .ok (.iconst 3, 1) := by decide +kernel
theorem dX10_engrave_134 : decode t_X10_engrave.2.1 134 = .ok (.invokevirtual 111, 3) := by decide +kernel
theorem iX10_engrave_134 : wm_iv t_X10_engrave t_X10_meets 134 := ⟨111, wd_1270, dX10_engrave_134⟩
theorem dX10_engrave_137 : decode t_X10_engrave.2.1 137 = .ok (.ireturn, 1) := by decide +kernel
theorem dX10_engrave_138 : decode t_X10_engrave.2.1 138 = .ok (.aload_n 0, 1) := by decide +kernel
theorem dX10_engrave_139 : decode t_X10_engrave.2.1 139 = .ok (.getfield 170, 3) := by decide +kernel
theorem gX10_engrave_139 : wm_gf t_X10_engrave 139 10 36 := ⟨_, _, _, 170, rfl, by decide, wd_1150, dX10_engrave_139⟩
theorem dX10_engrave_142 : decode t_X10_engrave.2.1 142 = .ok (.iconst 4, 1) := by decide +kernel
theorem dX10_engrave_143 : decode t_X10_engrave.2.1 143 = .ok (.if_icmp .ne 6, 3) := by decide +kernel
theorem dX10_engrave_146 : decode t_X10_engrave.2.1 146 = .ok (.bipush (-2), 2) := by decide +kernel
theorem dX10_engrave_148 : decode t_X10_engrave.2.1 148 = .ok (.ireturn, 1) := by decide +kernel
theorem dX10_engrave_149 : decode t_X10_engrave.2.1 149 = .ok (.bipush 6, 2) := by decide +kernel
theorem dX10_engrave_151 : decode t_X10_engrave.2.1 151 = .ok (.aload_n 0, 1) := by decide +kernel
theorem dX10_engrave_152 : decode t_X10_engrave.2.1 152 = .ok (.getfield 170, 3) := by decide +kernel
theorem gX10_engrave_152 : wm_gf t_X10_engrave 152 10 36 := ⟨_, _, _, 170, rfl, by decide, wd_1150, dX10_engrave_152⟩
theorem dX10_engrave_155 : decode t_X10_engrave.2.1 155 = .ok (.imul, 1) := by decide +kernel
theorem dX10_engrave_156 : decode t_X10_engrave.2.1 156 = .ok (.istore 6, 2) := by decide +kernel
theorem dX10_engrave_158 : decode t_X10_engrave.2.1 158 = .ok (.aload_n 0, 1) := by decide +kernel
theorem dX10_engrave_159 : decode t_X10_engrave.2.1 159 = .ok (.getfield 78, 3) := by decide +kernel
theorem wd_1151 : Cond.fieldLink RX10 78 "TurnedStonesModel" "engraved" "[I" ∈ lw_gd := List.mem_filter.mpr ⟨List.mem_of_getElem? (i := 1151) (by decide +kernel), by decide +kernel⟩
theorem gX10_engrave_159 : wm_gf t_X10_engrave 159 10 37 := ⟨_, _, _, 78, rfl, by decide, wd_1151, dX10_engrave_159⟩
theorem dX10_engrave_162 : decode t_X10_engrave.2.1 162 = .ok (.iload 6, 2) := by decide +kernel
theorem dX10_engrave_164 : decode t_X10_engrave.2.1 164 = .ok (.iload_n 1, 1) := by decide +kernel
theorem dX10_engrave_165 : decode t_X10_engrave.2.1 165 = .ok (.iastore, 1) := by decide +kernel
theorem dX10_engrave_166 : decode t_X10_engrave.2.1 166 = .ok (.aload_n 0, 1) := by decide +kernel
theorem dX10_engrave_167 : decode t_X10_engrave.2.1 167 = .ok (.getfield 78, 3) := by decide +kernel
theorem gX10_engrave_167 : wm_gf t_X10_engrave 167 10 37 := ⟨_, _, _, 78, rfl, by decide, wd_1151, dX10_engrave_167⟩
theorem dX10_engrave_170 : decode t_X10_engrave.2.1 170 = .ok (.iload 6, 2) := by decide +kernel
theorem dX10_engrave_172 : decode t_X10_engrave.2.1 172 = .ok (.iconst 1, 1) := by decide +kernel
theorem dX10_engrave_173 : decode t_X10_engrave.2.1 173 = .ok (.iadd, 1) := by decide +kernel
theorem dX10_engrave_174 : decode t_X10_engrave.2.1 174 = .ok (.iload_n 2, 1) := by decide +kernel
theorem dX10_engrave_175 : decode t_X10_engrave.2.1 175 = .ok (.iastore, 1) := by decide +kernel
theorem dX10_engrave_176 : decode t_X10_engrave.2.1 176 = .ok (.aload_n 0, 1) := by decide +kernel
theorem dX10_engrave_177 : decode t_X10_engrave.2.1 177 = .ok (.getfield 78, 3) := by decide +kernel
theorem gX10_engrave_177 : wm_gf t_X10_engrave 177 10 37 := ⟨_, _, _, 78, rfl, by decide, wd_1151, dX10_engrave_177⟩
theorem dX10_engrave_180 : decode t_X10_engrave.2.1 180 = .ok (.iload 6, 2) := by decide +kernel
theorem dX10_engrave_182 : decode t_X10_engrave.2.1 182 = .ok (.iconst 2, 1) := by decide +kernel
theorem dX10_engrave_183 : decode t_X10_engrave.2.1 183 = .ok (.iadd, 1) := by decide +kernel
theorem dX10_engrave_184 : decode t_X10_engrave.2.1 184 = .ok (.iload_n 3, 1) := by decide +kernel
theorem dX10_engrave_185 : decode t_X10_engrave.2.1 185 = .ok (.iastore, 1) := by decide +kernel
theorem dX10_engrave_186 : decode t_X10_engrave.2.1 186 = .ok (.iconst 0, 1) := by decide +kernel
theorem dX10_engrave_187 : decode t_X10_engrave.2.1 187 = .ok (.istore 7, 2) := by decide +kernel
theorem dX10_engrave_189 : decode t_X10_engrave.2.1 189 = .ok (.iload 7, 2) := by decide +kernel
theorem dX10_engrave_191 : decode t_X10_engrave.2.1 191 = .ok (.iconst 3, 1) := by decide +kernel
theorem dX10_engrave_192 : decode t_X10_engrave.2.1 192 = .ok (.if_icmp .ge 45, 3) := by decide +kernel
theorem dX10_engrave_195 : decode t_X10_engrave.2.1 195 = .ok (.aload_n 0, 1) := by decide +kernel
theorem dX10_engrave_196 : decode t_X10_engrave.2.1 196 = .ok (.getfield 78, 3) := by decide +kernel
theorem gX10_engrave_196 : wm_gf t_X10_engrave 196 10 37 := ⟨_, _, _, 78, rfl, by decide, wd_1151, dX10_engrave_196⟩
theorem dX10_engrave_199 : decode t_X10_engrave.2.1 199 = .ok (.iload 6, 2) := by decide +kernel
theorem dX10_engrave_201 : decode t_X10_engrave.2.1 201 = .ok (.iconst 3, 1) := by decide +kernel
theorem dX10_engrave_202 : decode t_X10_engrave.2.1 202 = .ok (.iadd, 1) := by decide +kernel
theorem dX10_engrave_203 : decode t_X10_engrave.2.1 203 = .ok (.iload 7, 2) := by decide +kernel
theorem dX10_engrave_205 : decode t_X10_engrave.2.1 205 = .ok (.iadd, 1) := by decide +kernel
theorem dX10_engrave_206 : decode t_X10_engrave.2.1 206 = .ok (.iload 7, 2) := by decide +kernel
theorem dX10_engrave_208 : decode t_X10_engrave.2.1 208 = .ok (.aload_n 0, 1) := by decide +kernel
theorem dX10_engrave_209 : decode t_X10_engrave.2.1 209 = .ok (.getfield 13, 3) := by decide +kernel
theorem gX10_engrave_209 : wm_gf t_X10_engrave 209 10 5 := ⟨_, _, _, 13, rfl, by decide, wd_1119, dX10_engrave_209⟩
theorem dX10_engrave_212 : decode t_X10_engrave.2.1 212 = .ok (.iload 4, 2) := by decide +kernel
theorem dX10_engrave_214 : decode t_X10_engrave.2.1 214 = .ok (.iaload, 1) := by decide +kernel
theorem dX10_engrave_215 : decode t_X10_engrave.2.1 215 = .ok (.if_icmp .ge 14, 3) := by decide +kernel
theorem dX10_engrave_218 : decode t_X10_engrave.2.1 218 = .ok (.aload_n 0, 1) := by decide +kernel
theorem dX10_engrave_219 : decode t_X10_engrave.2.1 219 = .ok (.iload 4, 2) := by decide +kernel
theorem dX10_engrave_221 : decode t_X10_engrave.2.1 221 = .ok (.iload 7, 2) := by decide +kernel
theorem dX10_engrave_223 : decode t_X10_engrave.2.1 223 = .ok (.invokevirtual 115, 3) := by decide +kernel
theorem iX10_engrave_223 : wm_iv t_X10_engrave t_X10_rowAt 223 := ⟨115, wd_1278, dX10_engrave_223⟩
theorem dX10_engrave_226 : decode t_X10_engrave.2.1 226 = .ok (.goto 4, 3) := by decide +kernel
theorem dX10_engrave_229 : decode t_X10_engrave.2.1 229 = .ok (.iconst 0, 1) := by decide +kernel
theorem dX10_engrave_230 : decode t_X10_engrave.2.1 230 = .ok (.iastore, 1) := by decide +kernel
theorem dX10_engrave_231 : decode t_X10_engrave.2.1 231 = .ok (.iinc 7 1, 3) := by decide +kernel
theorem dX10_engrave_234 : decode t_X10_engrave.2.1 234 = .ok (.goto (-45), 3) := by decide +kernel
theorem dX10_engrave_237 : decode t_X10_engrave.2.1 237 = .ok (.aload_n 0, 1) := by decide +kernel
theorem dX10_engrave_238 : decode t_X10_engrave.2.1 238 = .ok (.dup, 1) := by decide +kernel
theorem dX10_engrave_239 : decode t_X10_engrave.2.1 239 = .ok (.getfield 170, 3) := by decide +kernel
theorem gX10_engrave_239 : wm_gf t_X10_engrave 239 10 36 := ⟨_, _, _, 170, rfl, by decide, wd_1150, dX10_engrave_239⟩
theorem dX10_engrave_242 : decode t_X10_engrave.2.1 242 = .ok (.iconst 1, 1) := by decide +kernel
theorem dX10_engrave_243 : decode t_X10_engrave.2.1 243 = .ok (.iadd, 1) := by decide +kernel
theorem dX10_engrave_244 : decode t_X10_engrave.2.1 244 = .ok (.putfield 170, 3) := by decide +kernel
theorem gX10_engrave_244 : wm_pf t_X10_engrave 244 10 36 .int := ⟨_, _, _, 170, rfl, by decide, wd_1150, dX10_engrave_244, rfl, by decide +kernel⟩
theorem dX10_engrave_247 : decode t_X10_engrave.2.1 247 = .ok (.aload_n 0, 1) := by decide +kernel
theorem dX10_engrave_248 : decode t_X10_engrave.2.1 248 = .ok (.getfield 170, 3) := by decide +kernel
theorem gX10_engrave_248 : wm_gf t_X10_engrave 248 10 36 := ⟨_, _, _, 170, rfl, by decide, wd_1150, dX10_engrave_248⟩
theorem dX10_engrave_251 : decode t_X10_engrave.2.1 251 = .ok (.iconst 1, 1) := by decide +kernel
theorem dX10_engrave_252 : decode t_X10_engrave.2.1 252 = .ok (.isub, 1) := by decide +kernel
theorem dX10_engrave_253 : decode t_X10_engrave.2.1 253 = .ok (.ireturn, 1) := by decide +kernel
theorem wd_1551 : Cond.code yX10_lose cX10_lose 3 (some .int) ∈ lw_gd := List.mem_filter.mpr ⟨List.mem_of_getElem? (i := 1551) (by decide +kernel), by decide +kernel⟩
theorem wd_1549 : Cond.instanceMethod yX10_lose ∈ lw_gd := List.mem_filter.mpr ⟨List.mem_of_getElem? (i := 1549) (by decide +kernel), by decide +kernel⟩
theorem wd_1550 : Cond.selects RX10 yX10_lose yX10_lose ∈ lw_gd := List.mem_filter.mpr ⟨List.mem_of_getElem? (i := 1550) (by decide +kernel), by decide +kernel⟩
theorem vX10_lose : wm_calV t_X10_lose 1 := ⟨⟨wd_1551, wd_88, by decide +kernel, by decide +kernel, by decide +kernel⟩, wd_1549, wd_1550⟩
theorem dX10_lose_0 : decode t_X10_lose.2.1 0 = .ok (.iload_n 1, 1) := by decide +kernel
theorem dX10_lose_1 : decode t_X10_lose.2.1 1 = .ok (.iconst 0, 1) := by decide +kernel
theorem dX10_lose_2 : decode t_X10_lose.2.1 2 = .ok (.aload_n 0, 1) := by decide +kernel
theorem dX10_lose_3 : decode t_X10_lose.2.1 3 = .ok (.getfield 170, 3) := by decide +kernel
theorem gX10_lose_3 : wm_gf t_X10_lose 3 10 36 := ⟨_, _, _, 170, rfl, by decide, wd_1150, dX10_lose_3⟩
theorem dX10_lose_6 : decode t_X10_lose.2.1 6 = .ok (.invokestatic 97, 3) := by decide +kernel
theorem iX10_lose_6 : wm_is t_X10_lose t_X10_in 6 := ⟨97, wd_1248, dX10_lose_6⟩
theorem dX10_lose_9 : decode t_X10_lose.2.1 9 = .ok (.ifCond .ne 5, 3) := by decide +kernel
theorem dX10_lose_12 : decode t_X10_lose.2.1 12 = .ok (.iconst (-1), 1) := by decide +kernel
theorem dX10_lose_13 : decode t_X10_lose.2.1 13 = .ok (.ireturn, 1) := by decide +kernel
theorem dX10_lose_14 : decode t_X10_lose.2.1 14 = .ok (.aload_n 0, 1) := by decide +kernel
theorem dX10_lose_15 : decode t_X10_lose.2.1 15 = .ok (.getfield 170, 3) := by decide +kernel
theorem gX10_lose_15 : wm_gf t_X10_lose 15 10 36 := ⟨_, _, _, 170, rfl, by decide, wd_1150, dX10_lose_15⟩
theorem dX10_lose_18 : decode t_X10_lose.2.1 18 = .ok (.iload_n 1, 1) := by decide +kernel
theorem dX10_lose_19 : decode t_X10_lose.2.1 19 = .ok (.isub, 1) := by decide +kernel
theorem dX10_lose_20 : decode t_X10_lose.2.1 20 = .ok (.istore_n 2, 1) := by decide +kernel
theorem dX10_lose_21 : decode t_X10_lose.2.1 21 = .ok (.aload_n 0, 1) := by decide +kernel
theorem dX10_lose_22 : decode t_X10_lose.2.1 22 = .ok (.iload_n 1, 1) := by decide +kernel
theorem dX10_lose_23 : decode t_X10_lose.2.1 23 = .ok (.putfield 170, 3) := by decide +kernel
theorem gX10_lose_23 : wm_pf t_X10_lose 23 10 36 .int := ⟨_, _, _, 170, rfl, by decide, wd_1150, dX10_lose_23, rfl, by decide +kernel⟩
theorem dX10_lose_26 : decode t_X10_lose.2.1 26 = .ok (.iload_n 2, 1) := by decide +kernel
theorem dX10_lose_27 : decode t_X10_lose.2.1 27 = .ok (.ireturn, 1) := by decide +kernel
theorem wd_1569 : Cond.code yX10_fits cX10_fits 7 (some .boolean) ∈ lw_gd := List.mem_filter.mpr ⟨List.mem_of_getElem? (i := 1569) (by decide +kernel), by decide +kernel⟩
theorem wd_1568 : Cond.instanceMethod yX10_fits ∈ lw_gd := List.mem_filter.mpr ⟨List.mem_of_getElem? (i := 1568) (by decide +kernel), by decide +kernel⟩
theorem wd_72 : Cond.selects RX10 yX10_fits yX10_fits ∈ lw_gd := List.mem_filter.mpr ⟨List.mem_of_getElem? (i := 72) (by decide +kernel), by decide +kernel⟩
theorem vX10_fits : wm_calV t_X10_fits 2 := ⟨⟨wd_1569, wd_88, by decide +kernel, by decide +kernel, by decide +kernel⟩, wd_1568, wd_72⟩
theorem dX10_fits_0 : decode t_X10_fits.2.1 0 = .ok (.iconst 1, 1) := by decide +kernel
theorem dX10_fits_1 : decode t_X10_fits.2.1 1 = .ok (.istore_n 3, 1) := by decide +kernel
theorem dX10_fits_2 : decode t_X10_fits.2.1 2 = .ok (.iconst 0, 1) := by decide +kernel
theorem dX10_fits_3 : decode t_X10_fits.2.1 3 = .ok (.istore 4, 2) := by decide +kernel
theorem dX10_fits_5 : decode t_X10_fits.2.1 5 = .ok (.iload 4, 2) := by decide +kernel
theorem dX10_fits_7 : decode t_X10_fits.2.1 7 = .ok (.aload_n 0, 1) := by decide +kernel
theorem dX10_fits_8 : decode t_X10_fits.2.1 8 = .ok (.getfield 170, 3) := by decide +kernel
theorem gX10_fits_8 : wm_gf t_X10_fits 8 10 36 := ⟨_, _, _, 170, rfl, by decide, wd_1150, dX10_fits_8⟩
theorem dX10_fits_11 : decode t_X10_fits.2.1 11 = .ok (.if_icmp .ge 112, 3) := by decide +kernel
theorem dX10_fits_14 : decode t_X10_fits.2.1 14 = .ok (.iload_n 3, 1) := by decide +kernel
theorem dX10_fits_15 : decode t_X10_fits.2.1 15 = .ok (.ifCond .eq 108, 3) := by decide +kernel
theorem dX10_fits_18 : decode t_X10_fits.2.1 18 = .ok (.bipush 6, 2) := by decide +kernel
theorem dX10_fits_20 : decode t_X10_fits.2.1 20 = .ok (.iload 4, 2) := by decide +kernel
theorem dX10_fits_22 : decode t_X10_fits.2.1 22 = .ok (.imul, 1) := by decide +kernel
theorem dX10_fits_23 : decode t_X10_fits.2.1 23 = .ok (.istore 5, 2) := by decide +kernel
theorem dX10_fits_25 : decode t_X10_fits.2.1 25 = .ok (.aload_n 0, 1) := by decide +kernel
theorem dX10_fits_26 : decode t_X10_fits.2.1 26 = .ok (.getfield 78, 3) := by decide +kernel
theorem gX10_fits_26 : wm_gf t_X10_fits 26 10 37 := ⟨_, _, _, 78, rfl, by decide, wd_1151, dX10_fits_26⟩
theorem dX10_fits_29 : decode t_X10_fits.2.1 29 = .ok (.iload 5, 2) := by decide +kernel
theorem dX10_fits_31 : decode t_X10_fits.2.1 31 = .ok (.iaload, 1) := by decide +kernel
theorem dX10_fits_32 : decode t_X10_fits.2.1 32 = .ok (.iload_n 2, 1) := by decide +kernel
theorem dX10_fits_33 : decode t_X10_fits.2.1 33 = .ok (.if_icmp .ne 84, 3) := by decide +kernel
theorem dX10_fits_36 : decode t_X10_fits.2.1 36 = .ok (.aload_n 0, 1) := by decide +kernel
theorem dX10_fits_37 : decode t_X10_fits.2.1 37 = .ok (.iload_n 1, 1) := by decide +kernel
theorem dX10_fits_38 : decode t_X10_fits.2.1 38 = .ok (.invokevirtual 250, 3) := by decide +kernel
theorem iX10_fits_38 : wm_iv t_X10_fits t_X10_layState 38 := ⟨250, wd_1500, dX10_fits_38⟩
theorem dX10_fits_41 : decode t_X10_fits.2.1 41 = .ok (.iconst 0, 1) := by decide +kernel
theorem dX10_fits_42 : decode t_X10_fits.2.1 42 = .ok (.istore 6, 2) := by decide +kernel
theorem dX10_fits_44 : decode t_X10_fits.2.1 44 = .ok (.iload 6, 2) := by decide +kernel
theorem dX10_fits_46 : decode t_X10_fits.2.1 46 = .ok (.aload_n 0, 1) := by decide +kernel
theorem dX10_fits_47 : decode t_X10_fits.2.1 47 = .ok (.aload_n 0, 1) := by decide +kernel
theorem dX10_fits_48 : decode t_X10_fits.2.1 48 = .ok (.getfield 78, 3) := by decide +kernel
theorem gX10_fits_48 : wm_gf t_X10_fits 48 10 37 := ⟨_, _, _, 78, rfl, by decide, wd_1151, dX10_fits_48⟩
theorem dX10_fits_51 : decode t_X10_fits.2.1 51 = .ok (.iload 5, 2) := by decide +kernel
theorem dX10_fits_53 : decode t_X10_fits.2.1 53 = .ok (.iconst 1, 1) := by decide +kernel
theorem dX10_fits_54 : decode t_X10_fits.2.1 54 = .ok (.iadd, 1) := by decide +kernel
theorem dX10_fits_55 : decode t_X10_fits.2.1 55 = .ok (.iaload, 1) := by decide +kernel
theorem dX10_fits_56 : decode t_X10_fits.2.1 56 = .ok (.invokevirtual 196, 3) := by decide +kernel
theorem iX10_fits_56 : wm_iv t_X10_fits t_X10_longOf 56 := ⟨196, wd_1393, dX10_fits_56⟩
theorem dX10_fits_59 : decode t_X10_fits.2.1 59 = .ok (.if_icmp .ge 58, 3) := by decide +kernel
theorem dX10_fits_62 : decode t_X10_fits.2.1 62 = .ok (.iload_n 3, 1) := by decide +kernel
theorem dX10_fits_63 : decode t_X10_fits.2.1 63 = .ok (.ifCond .eq 46, 3) := by decide +kernel
theorem dX10_fits_66 : decode t_X10_fits.2.1 66 = .ok (.aload_n 0, 1) := by decide +kernel
theorem dX10_fits_67 : decode t_X10_fits.2.1 67 = .ok (.aload_n 0, 1) := by decide +kernel
theorem dX10_fits_68 : decode t_X10_fits.2.1 68 = .ok (.getfield 78, 3) := by decide +kernel
theorem gX10_fits_68 : wm_gf t_X10_fits 68 10 37 := ⟨_, _, _, 78, rfl, by decide, wd_1151, dX10_fits_68⟩
theorem dX10_fits_71 : decode t_X10_fits.2.1 71 = .ok (.iload 5, 2) := by decide +kernel
theorem dX10_fits_73 : decode t_X10_fits.2.1 73 = .ok (.iconst 1, 1) := by decide +kernel
theorem dX10_fits_74 : decode t_X10_fits.2.1 74 = .ok (.iadd, 1) := by decide +kernel
theorem dX10_fits_75 : decode t_X10_fits.2.1 75 = .ok (.iaload, 1) := by decide +kernel
theorem dX10_fits_76 : decode t_X10_fits.2.1 76 = .ok (.aload_n 0, 1) := by decide +kernel
theorem dX10_fits_77 : decode t_X10_fits.2.1 77 = .ok (.getfield 78, 3) := by decide +kernel
theorem gX10_fits_77 : wm_gf t_X10_fits 77 10 37 := ⟨_, _, _, 78, rfl, by decide, wd_1151, dX10_fits_77⟩
theorem dX10_fits_80 : decode t_X10_fits.2.1 80 = .ok (.iload 5, 2) := by decide +kernel
theorem dX10_fits_82 : decode t_X10_fits.2.1 82 = .ok (.iconst 2, 1) := by decide +kernel
theorem dX10_fits_83 : decode t_X10_fits.2.1 83 = .ok (.iadd, 1) := by decide +kernel
theorem dX10_fits_84 : decode t_X10_fits.2.1 84 = .ok (.iaload, 1) := by decide +kernel
theorem dX10_fits_85 : decode t_X10_fits.2.1 85 = .ok (.iload 6, 2) := by decide +kernel
theorem dX10_fits_87 : decode t_X10_fits.2.1 87 = .ok (.invokevirtual 206, 3) := by decide +kernel
theorem iX10_fits_87 : wm_iv t_X10_fits t_X10_wordAt 87 := ⟨206, wd_1397, dX10_fits_87⟩
theorem dX10_fits_90 : decode t_X10_fits.2.1 90 = .ok (.aload_n 0, 1) := by decide +kernel
theorem dX10_fits_91 : decode t_X10_fits.2.1 91 = .ok (.getfield 78, 3) := by decide +kernel
theorem gX10_fits_91 : wm_gf t_X10_fits 91 10 37 := ⟨_, _, _, 78, rfl, by decide, wd_1151, dX10_fits_91⟩
theorem dX10_fits_94 : decode t_X10_fits.2.1 94 = .ok (.iload 5, 2) := by decide +kernel
theorem dX10_fits_96 : decode t_X10_fits.2.1 96 = .ok (.iconst 3, 1) := by decide +kernel
theorem dX10_fits_97 : decode t_X10_fits.2.1 97 = .ok (.iadd, 1) := by decide +kernel
theorem dX10_fits_98 : decode t_X10_fits.2.1 98 = .ok (.iload 6, 2) := by decide +kernel
theorem dX10_fits_100 : decode t_X10_fits.2.1 100 = .ok (.iadd, 1) := by decide +kernel
theorem dX10_fits_101 : decode t_X10_fits.2.1 101 = .ok (.iaload, 1) := by decide +kernel
theorem dX10_fits_102 : decode t_X10_fits.2.1 102 = .ok (.if_icmp .ne 7, 3) := by decide +kernel
theorem dX10_fits_105 : decode t_X10_fits.2.1 105 = .ok (.iconst 1, 1) := by decide +kernel
theorem dX10_fits_106 : decode t_X10_fits.2.1 106 = .ok (.goto 4, 3) := by decide +kernel
theorem dX10_fits_109 : decode t_X10_fits.2.1 109 = .ok (.iconst 0, 1) := by decide +kernel
theorem dX10_fits_110 : decode t_X10_fits.2.1 110 = .ok (.istore_n 3, 1) := by decide +kernel
theorem dX10_fits_111 : decode t_X10_fits.2.1 111 = .ok (.iinc 6 1, 3) := by decide +kernel
theorem dX10_fits_114 : decode t_X10_fits.2.1 114 = .ok (.goto (-70), 3) := by decide +kernel
theorem dX10_fits_117 : decode t_X10_fits.2.1 117 = .ok (.iinc 4 1, 3) := by decide +kernel
theorem dX10_fits_120 : decode t_X10_fits.2.1 120 = .ok (.goto (-115), 3) := by decide +kernel
theorem dX10_fits_123 : decode t_X10_fits.2.1 123 = .ok (.iload_n 3, 1) := by decide +kernel
theorem dX10_fits_124 : decode t_X10_fits.2.1 124 = .ok (.ireturn, 1) := by decide +kernel
theorem wd_1565 : Cond.code yX10_spot cX10_spot 2 (some .int) ∈ lw_gd := List.mem_filter.mpr ⟨List.mem_of_getElem? (i := 1565) (by decide +kernel), by decide +kernel⟩
theorem wd_1564 : Cond.static yX10_spot ∈ lw_gd := List.mem_filter.mpr ⟨List.mem_of_getElem? (i := 1564) (by decide +kernel), by decide +kernel⟩
theorem vX10_spot : wm_calS t_X10_spot 2 := ⟨⟨wd_1565, wd_88, by decide +kernel, by decide +kernel, by decide +kernel⟩, wd_1564⟩
theorem dX10_spot_0 : decode t_X10_spot.2.1 0 = .ok (.sipush 4096, 3) := by decide +kernel
theorem dX10_spot_3 : decode t_X10_spot.2.1 3 = .ok (.iload_n 0, 1) := by decide +kernel
theorem dX10_spot_4 : decode t_X10_spot.2.1 4 = .ok (.imul, 1) := by decide +kernel
theorem dX10_spot_5 : decode t_X10_spot.2.1 5 = .ok (.iload_n 1, 1) := by decide +kernel
theorem dX10_spot_6 : decode t_X10_spot.2.1 6 = .ok (.iadd, 1) := by decide +kernel
theorem dX10_spot_7 : decode t_X10_spot.2.1 7 = .ok (.ireturn, 1) := by decide +kernel
theorem wd_1562 : Cond.code yX10_layHistories cX10_layHistories 7 (none) ∈ lw_gd := List.mem_filter.mpr ⟨List.mem_of_getElem? (i := 1562) (by decide +kernel), by decide +kernel⟩
theorem wd_1561 : Cond.instanceMethod yX10_layHistories ∈ lw_gd := List.mem_filter.mpr ⟨List.mem_of_getElem? (i := 1561) (by decide +kernel), by decide +kernel⟩
theorem wd_71 : Cond.selects RX10 yX10_layHistories yX10_layHistories ∈ lw_gd := List.mem_filter.mpr ⟨List.mem_of_getElem? (i := 71) (by decide +kernel), by decide +kernel⟩
theorem vX10_layHistories : wm_calV t_X10_layHistories 1 := ⟨⟨wd_1562, wd_88, by decide +kernel, by decide +kernel, by decide +kernel⟩, wd_1561, wd_71⟩
theorem dX10_layHistories_0 : decode t_X10_layHistories.2.1 0 = .ok (.iconst 0, 1) := by decide +kernel
theorem dX10_layHistories_1 : decode t_X10_layHistories.2.1 1 = .ok (.istore_n 2, 1) := by decide +kernel
theorem dX10_layHistories_2 : decode t_X10_layHistories.2.1 2 = .ok (.iload_n 2, 1) := by decide +kernel
theorem dX10_layHistories_3 : decode t_X10_layHistories.2.1 3 = .ok (.iload_n 1, 1) := by decide +kernel
theorem dX10_layHistories_4 : decode t_X10_layHistories.2.1 4 = .ok (.if_icmp .gt 207, 3) := by decide +kernel
theorem dX10_layHistories_7 : decode t_X10_layHistories.2.1 7 = .ok (.iconst 0, 1) := by decide +kernel
theorem dX10_layHistories_8 : decode t_X10_layHistories.2.1 8 = .ok (.istore_n 3, 1) := by decide +kernel
theorem dX10_layHistories_9 : decode t_X10_layHistories.2.1 9 = .ok (.iload_n 3, 1) := by decide +kernel
theorem dX10_layHistories_10 : decode t_X10_layHistories.2.1 10 = .ok (.aload_n 0, 1) := by decide +kernel
theorem dX10_layHistories_11 : decode t_X10_layHistories.2.1 11 = .ok (.invokevirtual 244, 3) := by decide +kernel
theorem iX10_layHistories_11 : wm_iv t_X10_layHistories t_X10_stateMany 11 := ⟨244, wd_1488, dX10_layHistories_11⟩
theorem dX10_layHistories_14 : decode t_X10_layHistories.2.1 14 = .ok (.if_icmp .ge 32, 3) := by decide +kernel
theorem dX10_layHistories_17 : decode t_X10_layHistories.2.1 17 = .ok (.aload_n 0, 1) := by decide +kernel
theorem dX10_layHistories_18 : decode t_X10_layHistories.2.1 18 = .ok (.getfield 82, 3) := by decide +kernel
theorem wd_1152 : Cond.fieldLink RX10 82 "TurnedStonesModel" "forth" "[J" ∈ lw_gd := List.mem_filter.mpr ⟨List.mem_of_getElem? (i := 1152) (by decide +kernel), by decide +kernel⟩
theorem gX10_layHistories_18 : wm_gf t_X10_layHistories 18 10 38 := ⟨_, _, _, 82, rfl, by decide, wd_1152, dX10_layHistories_18⟩
theorem dX10_layHistories_21 : decode t_X10_layHistories.2.1 21 = .ok (.iload_n 2, 1) := by decide +kernel
theorem dX10_layHistories_22 : decode t_X10_layHistories.2.1 22 = .ok (.iload_n 3, 1) := by decide +kernel
theorem dX10_layHistories_23 : decode t_X10_layHistories.2.1 23 = .ok (.invokestatic 283, 3) := by decide +kernel
theorem wd_1563 : Cond.methodLink RX10 283 yX10_spot ∈ lw_gd := List.mem_filter.mpr ⟨List.mem_of_getElem? (i := 1563) (by decide +kernel), by decide +kernel⟩
theorem iX10_layHistories_23 : wm_is t_X10_layHistories t_X10_spot 23 := ⟨283, wd_1563, dX10_layHistories_23⟩
theorem dX10_layHistories_26 : decode t_X10_layHistories.2.1 26 = .ok (.iload_n 2, 1) := by decide +kernel
theorem dX10_layHistories_27 : decode t_X10_layHistories.2.1 27 = .ok (.ifCond .ne 11, 3) := by decide +kernel
theorem dX10_layHistories_30 : decode t_X10_layHistories.2.1 30 = .ok (.iload_n 3, 1) := by decide +kernel
theorem dX10_layHistories_31 : decode t_X10_layHistories.2.1 31 = .ok (.ifCond .ne 7, 3) := by decide +kernel
theorem dX10_layHistories_34 : decode t_X10_layHistories.2.1 34 = .ok (.lconst 1, 1) := by decide +kernel
theorem dX10_layHistories_35 : decode t_X10_layHistories.2.1 35 = .ok (.goto 4, 3) := by decide +kernel
theorem dX10_layHistories_38 : decode t_X10_layHistories.2.1 38 = .ok (.lconst 0, 1) := by decide +kernel
theorem dX10_layHistories_39 : decode t_X10_layHistories.2.1 39 = .ok (.lastore, 1) := by decide +kernel
theorem dX10_layHistories_40 : decode t_X10_layHistories.2.1 40 = .ok (.iinc 3 1, 3) := by decide +kernel
theorem dX10_layHistories_43 : decode t_X10_layHistories.2.1 43 = .ok (.goto (-34), 3) := by decide +kernel
theorem dX10_layHistories_46 : decode t_X10_layHistories.2.1 46 = .ok (.iconst 0, 1) := by decide +kernel
theorem dX10_layHistories_47 : decode t_X10_layHistories.2.1 47 = .ok (.istore_n 3, 1) := by decide +kernel
theorem dX10_layHistories_48 : decode t_X10_layHistories.2.1 48 = .ok (.iload_n 3, 1) := by decide +kernel
theorem dX10_layHistories_49 : decode t_X10_layHistories.2.1 49 = .ok (.aload_n 0, 1) := by decide +kernel
theorem dX10_layHistories_50 : decode t_X10_layHistories.2.1 50 = .ok (.invokevirtual 244, 3) := by decide +kernel
theorem iX10_layHistories_50 : wm_iv t_X10_layHistories t_X10_stateMany 50 := ⟨244, wd_1488, dX10_layHistories_50⟩
theorem dX10_layHistories_53 : decode t_X10_layHistories.2.1 53 = .ok (.if_icmp .ge 101, 3) := by decide +kernel
theorem dX10_layHistories_56 : decode t_X10_layHistories.2.1 56 = .ok (.iload_n 2, 1) := by decide +kernel
theorem dX10_layHistories_57 : decode t_X10_layHistories.2.1 57 = .ok (.ifCond .le 97, 3) := by decide +kernel
theorem dX10_layHistories_60 : decode t_X10_layHistories.2.1 60 = .ok (.aload_n 0, 1) := by decide +kernel
theorem dX10_layHistories_61 : decode t_X10_layHistories.2.1 61 = .ok (.getfield 82, 3) := by decide +kernel
theorem gX10_layHistories_61 : wm_gf t_X10_layHistories 61 10 38 := ⟨_, _, _, 82, rfl, by decide, wd_1152, dX10_layHistories_61⟩
theorem dX10_layHistories_64 : decode t_X10_layHistories.2.1 64 = .ok (.iload_n 2, 1) := by decide +kernel
theorem dX10_layHistories_65 : decode t_X10_layHistories.2.1 65 = .ok (.iconst 1, 1) := by decide +kernel
theorem dX10_layHistories_66 : decode t_X10_layHistories.2.1 66 = .ok (.isub, 1) := by decide +kernel
theorem dX10_layHistories_67 : decode t_X10_layHistories.2.1 67 = .ok (.iload_n 3, 1) := by decide +kernel
theorem dX10_layHistories_68 : decode t_X10_layHistories.2.1 68 = .ok (.invokestatic 283, 3) := by decide +kernel
theorem iX10_layHistories_68 : wm_is t_X10_layHistories t_X10_spot 68 := ⟨283, wd_1563, dX10_layHistories_68⟩
theorem dX10_layHistories_71 : decode t_X10_layHistories.2.1 71 = .ok (.laload, 1) := by decide +kernel
theorem dX10_layHistories_72 : decode t_X10_layHistories.2.1 72 = .ok (.lstore 4, 2) := by decide +kernel
theorem dX10_layHistories_74 : decode t_X10_layHistories.2.1 74 = .ok (.lload 4, 2) := by decide +kernel
theorem dX10_layHistories_76 : decode t_X10_layHistories.2.1 76 = .ok (.lconst 0, 1) := by decide +kernel
theorem dX10_layHistories_77 : decode t_X10_layHistories.2.1 77 = .ok (.lcmp, 1) := by decide +kernel
theorem dX10_layHistories_78 : decode t_X10_layHistories.2.1 78 = .ok (.ifCond .le 70, 3) := by decide +kernel
theorem dX10_layHistories_81 : decode t_X10_layHistories.2.1 81 = .ok (.aload_n 0, 1) := by decide +kernel
theorem dX10_layHistories_82 : decode t_X10_layHistories.2.1 82 = .ok (.getfield 82, 3) := by decide +kernel
theorem gX10_layHistories_82 : wm_gf t_X10_layHistories 82 10 38 := ⟨_, _, _, 82, rfl, by decide, wd_1152, dX10_layHistories_82⟩
theorem dX10_layHistories_85 : decode t_X10_layHistories.2.1 85 = .ok (.iload_n 2, 1) := by decide +kernel
theorem dX10_layHistories_86 : decode t_X10_layHistories.2.1 86 = .ok (.iload_n 3, 1) := by decide +kernel
theorem dX10_layHistories_87 : decode t_X10_layHistories.2.1 87 = .ok (.invokestatic 283, 3) := by decide +kernel
theorem iX10_layHistories_87 : wm_is t_X10_layHistories t_X10_spot 87 := ⟨283, wd_1563, dX10_layHistories_87⟩
theorem dX10_layHistories_90 : decode t_X10_layHistories.2.1 90 = .ok (.dup2, 1) := by decide +kernel
theorem dX10_layHistories_91 : decode t_X10_layHistories.2.1 91 = .ok (.laload, 1) := by decide +kernel
theorem dX10_layHistories_92 : decode t_X10_layHistories.2.1 92 = .ok (.lload 4, 2) := by decide +kernel
theorem dX10_layHistories_94 : decode t_X10_layHistories.2.1 94 = .ok (.ladd, 1) := by decide +kernel
theorem dX10_layHistories_95 : decode t_X10_layHistories.2.1 95 = .ok (.lastore, 1) := by decide +kernel
theorem dX10_layHistories_96 : decode t_X10_layHistories.2.1 96 = .ok (.iconst 0, 1) := by decide +kernel
theorem dX10_layHistories_97 : decode t_X10_layHistories.2.1 97 = .ok (.istore 6, 2) := by decide +kernel
theorem dX10_layHistories_99 : decode t_X10_layHistories.2.1 99 = .ok (.iload 6, 2) := by decide +kernel
theorem dX10_layHistories_101 : decode t_X10_layHistories.2.1 101 = .ok (.aload_n 0, 1) := by decide +kernel
theorem dX10_layHistories_102 : decode t_X10_layHistories.2.1 102 = .ok (.getfield 164, 3) := by decide +kernel
theorem gX10_layHistories_102 : wm_gf t_X10_layHistories 102 10 12 := ⟨_, _, _, 164, rfl, by decide, wd_1126, dX10_layHistories_102⟩
theorem dX10_layHistories_105 : decode t_X10_layHistories.2.1 105 = .ok (.if_icmp .ge 43, 3) := by decide +kernel
theorem dX10_layHistories_108 : decode t_X10_layHistories.2.1 108 = .ok (.aload_n 0, 1) := by decide +kernel
theorem dX10_layHistories_109 : decode t_X10_layHistories.2.1 109 = .ok (.getfield 82, 3) := by decide +kernel
theorem gX10_layHistories_109 : wm_gf t_X10_layHistories 109 10 38 := ⟨_, _, _, 82, rfl, by decide, wd_1152, dX10_layHistories_109⟩
theorem dX10_layHistories_112 : decode t_X10_layHistories.2.1 112 = .ok (.iload_n 2, 1) := by decide +kernel
theorem dX10_layHistories_113 : decode t_X10_layHistories.2.1 113 = .ok (.aload_n 0, 1) := by decide +kernel
theorem dX10_layHistories_114 : decode t_X10_layHistories.2.1 114 = .ok (.iload_n 3, 1) := by decide +kernel
theorem dX10_layHistories_115 : decode t_X10_layHistories.2.1 115 = .ok (.iload 6, 2) := by decide +kernel
theorem dX10_layHistories_117 : decode t_X10_layHistories.2.1 117 = .ok (.invokevirtual 276, 3) := by decide +kernel
theorem iX10_layHistories_117 : wm_iv t_X10_layHistories t_X10_turnedOf 117 := ⟨276, wd_1540, dX10_layHistories_117⟩
theorem dX10_layHistories_120 : decode t_X10_layHistories.2.1 120 = .ok (.invokestatic 283, 3) := by decide +kernel
theorem iX10_layHistories_120 : wm_is t_X10_layHistories t_X10_spot 120 := ⟨283, wd_1563, dX10_layHistories_120⟩
theorem dX10_layHistories_123 : decode t_X10_layHistories.2.1 123 = .ok (.dup2, 1) := by decide +kernel
theorem dX10_layHistories_124 : decode t_X10_layHistories.2.1 124 = .ok (.laload, 1) := by decide +kernel
theorem dX10_layHistories_125 : decode t_X10_layHistories.2.1 125 = .ok (.aload_n 0, 1) := by decide +kernel
theorem dX10_layHistories_126 : decode t_X10_layHistories.2.1 126 = .ok (.iload 6, 2) := by decide +kernel
theorem dX10_layHistories_128 : decode t_X10_layHistories.2.1 128 = .ok (.invokevirtual 234, 3) := by decide +kernel
theorem iX10_layHistories_128 : wm_iv t_X10_layHistories t_X10_isFixed 128 := ⟨234, wd_1441, dX10_layHistories_128⟩
theorem dX10_layHistories_131 : decode t_X10_layHistories.2.1 131 = .ok (.ifCond .eq 7, 3) := by decide +kernel
theorem dX10_layHistories_134 : decode t_X10_layHistories.2.1 134 = .ok (.lconst 0, 1) := by decide +kernel
theorem dX10_layHistories_135 : decode t_X10_layHistories.2.1 135 = .ok (.goto 5, 3) := by decide +kernel
theorem dX10_layHistories_138 : decode t_X10_layHistories.2.1 138 = .ok (.lload 4, 2) := by decide +kernel
theorem dX10_layHistories_140 : decode t_X10_layHistories.2.1 140 = .ok (.ladd, 1) := by decide +kernel
theorem dX10_layHistories_141 : decode t_X10_layHistories.2.1 141 = .ok (.lastore, 1) := by decide +kernel
theorem dX10_layHistories_142 : decode t_X10_layHistories.2.1 142 = .ok (.iinc 6 1, 3) := by decide +kernel
theorem dX10_layHistories_145 : decode t_X10_layHistories.2.1 145 = .ok (.goto (-46), 3) := by decide +kernel
theorem dX10_layHistories_148 : decode t_X10_layHistories.2.1 148 = .ok (.iinc 3 1, 3) := by decide +kernel
theorem dX10_layHistories_151 : decode t_X10_layHistories.2.1 151 = .ok (.goto (-103), 3) := by decide +kernel
theorem dX10_layHistories_154 : decode t_X10_layHistories.2.1 154 = .ok (.iconst 0, 1) := by decide +kernel
theorem dX10_layHistories_155 : decode t_X10_layHistories.2.1 155 = .ok (.istore_n 3, 1) := by decide +kernel
theorem dX10_layHistories_156 : decode t_X10_layHistories.2.1 156 = .ok (.iload_n 3, 1) := by decide +kernel
theorem dX10_layHistories_157 : decode t_X10_layHistories.2.1 157 = .ok (.aload_n 0, 1) := by decide +kernel
theorem dX10_layHistories_158 : decode t_X10_layHistories.2.1 158 = .ok (.invokevirtual 244, 3) := by decide +kernel
theorem iX10_layHistories_158 : wm_iv t_X10_layHistories t_X10_stateMany 158 := ⟨244, wd_1488, dX10_layHistories_158⟩
theorem dX10_layHistories_161 : decode t_X10_layHistories.2.1 161 = .ok (.if_icmp .ge 44, 3) := by decide +kernel
theorem dX10_layHistories_164 : decode t_X10_layHistories.2.1 164 = .ok (.aload_n 0, 1) := by decide +kernel
theorem dX10_layHistories_165 : decode t_X10_layHistories.2.1 165 = .ok (.getfield 82, 3) := by decide +kernel
theorem gX10_layHistories_165 : wm_gf t_X10_layHistories 165 10 38 := ⟨_, _, _, 82, rfl, by decide, wd_1152, dX10_layHistories_165⟩
theorem dX10_layHistories_168 : decode t_X10_layHistories.2.1 168 = .ok (.iload_n 2, 1) := by decide +kernel
theorem dX10_layHistories_169 : decode t_X10_layHistories.2.1 169 = .ok (.iload_n 3, 1) := by decide +kernel
theorem dX10_layHistories_170 : decode t_X10_layHistories.2.1 170 = .ok (.invokestatic 283, 3) := by decide +kernel
theorem iX10_layHistories_170 : wm_is t_X10_layHistories t_X10_spot 170 := ⟨283, wd_1563, dX10_layHistories_170⟩
theorem dX10_layHistories_173 : decode t_X10_layHistories.2.1 173 = .ok (.laload, 1) := by decide +kernel
theorem dX10_layHistories_174 : decode t_X10_layHistories.2.1 174 = .ok (.lconst 0, 1) := by decide +kernel
theorem dX10_layHistories_175 : decode t_X10_layHistories.2.1 175 = .ok (.lcmp, 1) := by decide +kernel
theorem dX10_layHistories_176 : decode t_X10_layHistories.2.1 176 = .ok (.ifCond .le 23, 3) := by decide +kernel
theorem dX10_layHistories_179 : decode t_X10_layHistories.2.1 179 = .ok (.aload_n 0, 1) := by decide +kernel
theorem dX10_layHistories_180 : decode t_X10_layHistories.2.1 180 = .ok (.iload_n 3, 1) := by decide +kernel
theorem dX10_layHistories_181 : decode t_X10_layHistories.2.1 181 = .ok (.iload_n 2, 1) := by decide +kernel
theorem dX10_layHistories_182 : decode t_X10_layHistories.2.1 182 = .ok (.invokevirtual 286, 3) := by decide +kernel
theorem wd_1566 : Cond.methodLink RX10 286 yX10_fits ∈ lw_gd := List.mem_filter.mpr ⟨List.mem_of_getElem? (i := 1566) (by decide +kernel), by decide +kernel⟩
theorem iX10_layHistories_182 : wm_iv t_X10_layHistories t_X10_fits 182 := ⟨286, wd_1566, dX10_layHistories_182⟩
theorem dX10_layHistories_185 : decode t_X10_layHistories.2.1 185 = .ok (.ifCond .ne 14, 3) := by decide +kernel
theorem dX10_layHistories_188 : decode t_X10_layHistories.2.1 188 = .ok (.aload_n 0, 1) := by decide +kernel
theorem dX10_layHistories_189 : decode t_X10_layHistories.2.1 189 = .ok (.getfield 82, 3) := by decide +kernel
theorem gX10_layHistories_189 : wm_gf t_X10_layHistories 189 10 38 := ⟨_, _, _, 82, rfl, by decide, wd_1152, dX10_layHistories_189⟩
theorem dX10_layHistories_192 : decode t_X10_layHistories.2.1 192 = .ok (.iload_n 2, 1) := by decide +kernel
theorem dX10_layHistories_193 : decode t_X10_layHistories.2.1 193 = .ok (.iload_n 3, 1) := by decide +kernel
theorem dX10_layHistories_194 : decode t_X10_layHistories.2.1 194 = .ok (.invokestatic 283, 3) := by decide +kernel
theorem iX10_layHistories_194 : wm_is t_X10_layHistories t_X10_spot 194 := ⟨283, wd_1563, dX10_layHistories_194⟩
theorem dX10_layHistories_197 : decode t_X10_layHistories.2.1 197 = .ok (.lconst 0, 1) := by decide +kernel
theorem dX10_layHistories_198 : decode t_X10_layHistories.2.1 198 = .ok (.lastore, 1) := by decide +kernel
theorem dX10_layHistories_199 : decode t_X10_layHistories.2.1 199 = .ok (.iinc 3 1, 3) := by decide +kernel
theorem dX10_layHistories_202 : decode t_X10_layHistories.2.1 202 = .ok (.goto (-46), 3) := by decide +kernel
theorem dX10_layHistories_205 : decode t_X10_layHistories.2.1 205 = .ok (.iinc 2 1, 3) := by decide +kernel
theorem dX10_layHistories_208 : decode t_X10_layHistories.2.1 208 = .ok (.goto (-206), 3) := by decide +kernel
theorem dX10_layHistories_211 : decode t_X10_layHistories.2.1 211 = .ok (.iload_n 1, 1) := by decide +kernel
theorem dX10_layHistories_212 : decode t_X10_layHistories.2.1 212 = .ok (.istore_n 2, 1) := by decide +kernel
theorem dX10_layHistories_213 : decode t_X10_layHistories.2.1 213 = .ok (.iload_n 2, 1) := by decide +kernel
theorem dX10_layHistories_214 : decode t_X10_layHistories.2.1 214 = .ok (.ifCond .lt 137, 3) := by decide +kernel
theorem dX10_layHistories_217 : decode t_X10_layHistories.2.1 217 = .ok (.iconst 0, 1) := by decide +kernel
theorem dX10_layHistories_218 : decode t_X10_layHistories.2.1 218 = .ok (.istore_n 3, 1) := by decide +kernel
theorem dX10_layHistories_219 : decode t_X10_layHistories.2.1 219 = .ok (.iload_n 3, 1) := by decide +kernel
theorem dX10_layHistories_220 : decode t_X10_layHistories.2.1 220 = .ok (.aload_n 0, 1) := by decide +kernel
theorem dX10_layHistories_221 : decode t_X10_layHistories.2.1 221 = .ok (.invokevirtual 244, 3) := by decide +kernel
theorem iX10_layHistories_221 : wm_iv t_X10_layHistories t_X10_stateMany 221 := ⟨244, wd_1488, dX10_layHistories_221⟩
theorem dX10_layHistories_224 : decode t_X10_layHistories.2.1 224 = .ok (.if_icmp .ge 121, 3) := by decide +kernel
theorem dX10_layHistories_227 : decode t_X10_layHistories.2.1 227 = .ok (.lconst 0, 1) := by decide +kernel
theorem dX10_layHistories_228 : decode t_X10_layHistories.2.1 228 = .ok (.lstore 4, 2) := by decide +kernel
theorem dX10_layHistories_230 : decode t_X10_layHistories.2.1 230 = .ok (.aload_n 0, 1) := by decide +kernel
theorem dX10_layHistories_231 : decode t_X10_layHistories.2.1 231 = .ok (.getfield 82, 3) := by decide +kernel
theorem gX10_layHistories_231 : wm_gf t_X10_layHistories 231 10 38 := ⟨_, _, _, 82, rfl, by decide, wd_1152, dX10_layHistories_231⟩
theorem dX10_layHistories_234 : decode t_X10_layHistories.2.1 234 = .ok (.iload_n 2, 1) := by decide +kernel
theorem dX10_layHistories_235 : decode t_X10_layHistories.2.1 235 = .ok (.iload_n 3, 1) := by decide +kernel
theorem dX10_layHistories_236 : decode t_X10_layHistories.2.1 236 = .ok (.invokestatic 283, 3) := by decide +kernel
theorem iX10_layHistories_236 : wm_is t_X10_layHistories t_X10_spot 236 := ⟨283, wd_1563, dX10_layHistories_236⟩
theorem dX10_layHistories_239 : decode t_X10_layHistories.2.1 239 = .ok (.laload, 1) := by decide +kernel
theorem dX10_layHistories_240 : decode t_X10_layHistories.2.1 240 = .ok (.lconst 0, 1) := by decide +kernel
theorem dX10_layHistories_241 : decode t_X10_layHistories.2.1 241 = .ok (.lcmp, 1) := by decide +kernel
theorem dX10_layHistories_242 : decode t_X10_layHistories.2.1 242 = .ok (.ifCond .le 85, 3) := by decide +kernel
theorem dX10_layHistories_245 : decode t_X10_layHistories.2.1 245 = .ok (.iload_n 2, 1) := by decide +kernel
theorem dX10_layHistories_246 : decode t_X10_layHistories.2.1 246 = .ok (.iload_n 1, 1) := by decide +kernel
theorem dX10_layHistories_247 : decode t_X10_layHistories.2.1 247 = .ok (.if_icmp .ne 7, 3) := by decide +kernel
theorem dX10_layHistories_250 : decode t_X10_layHistories.2.1 250 = .ok (.lconst 1, 1) := by decide +kernel
theorem dX10_layHistories_251 : decode t_X10_layHistories.2.1 251 = .ok (.goto 15, 3) := by decide +kernel
theorem dX10_layHistories_254 : decode t_X10_layHistories.2.1 254 = .ok (.aload_n 0, 1) := by decide +kernel
theorem dX10_layHistories_255 : decode t_X10_layHistories.2.1 255 = .ok (.getfield 86, 3) := by decide +kernel
theorem wd_1153 : Cond.fieldLink RX10 86 "TurnedStonesModel" "onward" "[J" ∈ lw_gd := List.mem_filter.mpr ⟨List.mem_of_getElem? (i := 1153) (by decide +kernel), by decide +kernel⟩
theorem gX10_layHistories_255 : wm_gf t_X10_layHistories 255 10 39 := ⟨_, _, _, 86, rfl, by decide, wd_1153, dX10_layHistories_255⟩
theorem dX10_layHistories_258 : decode t_X10_layHistories.2.1 258 = .ok (.iload_n 2, 1) := by decide +kernel
theorem dX10_layHistories_259 : decode t_X10_layHistories.2.1 259 = .ok (.iconst 1, 1) := by decide +kernel
theorem dX10_layHistories_260 : decode t_X10_layHistories.2.1 260 = .ok (.iadd, 1) := by decide +kernel
theorem dX10_layHistories_261 : decode t_X10_layHistories.2.1 261 = .ok (.iload_n 3, 1) := by decide +kernel
theorem dX10_layHistories_262 : decode t_X10_layHistories.2.1 262 = .ok (.invokestatic 283, 3) := by decide +kernel
theorem iX10_layHistories_262 : wm_is t_X10_layHistories t_X10_spot 262 := ⟨283, wd_1563, dX10_layHistories_262⟩
theorem dX10_layHistories_265 : decode t_X10_layHistories.2.1 265 = .ok (.laload, 1) := by decide +kernel
theorem dX10_layHistories_266 : decode t_X10_layHistories.2.1 266 = .ok (.lstore 4, 2) := by decide +kernel
theorem dX10_layHistories_268 : decode t_X10_layHistories.2.1 268 = .ok (.iconst 0, 1) := by decide +kernel
theorem dX10_layHistories_269 : decode t_X10_layHistories.2.1 269 = .ok (.istore 6, 2) := by decide +kernel
theorem dX10_layHistories_271 : decode t_X10_layHistories.2.1 271 = .ok (.iload 6, 2) := by decide +kernel
theorem dX10_layHistories_273 : decode t_X10_layHistories.2.1 273 = .ok (.aload_n 0, 1) := by decide +kernel
theorem dX10_layHistories_274 : decode t_X10_layHistories.2.1 274 = .ok (.getfield 164, 3) := by decide +kernel
theorem gX10_layHistories_274 : wm_gf t_X10_layHistories 274 10 12 := ⟨_, _, _, 164, rfl, by decide, wd_1126, dX10_layHistories_274⟩
theorem dX10_layHistories_277 : decode t_X10_layHistories.2.1 277 = .ok (.if_icmp .ge 50, 3) := by decide +kernel
theorem dX10_layHistories_280 : decode t_X10_layHistories.2.1 280 = .ok (.iload_n 2, 1) := by decide +kernel
theorem dX10_layHistories_281 : decode t_X10_layHistories.2.1 281 = .ok (.iload_n 1, 1) := by decide +kernel
theorem dX10_layHistories_282 : decode t_X10_layHistories.2.1 282 = .ok (.if_icmp .ge 45, 3) := by decide +kernel
theorem dX10_layHistories_285 : decode t_X10_layHistories.2.1 285 = .ok (.lload 4, 2) := by decide +kernel
theorem dX10_layHistories_287 : decode t_X10_layHistories.2.1 287 = .ok (.aload_n 0, 1) := by decide +kernel
theorem dX10_layHistories_288 : decode t_X10_layHistories.2.1 288 = .ok (.iload 6, 2) := by decide +kernel
theorem dX10_layHistories_290 : decode t_X10_layHistories.2.1 290 = .ok (.invokevirtual 234, 3) := by decide +kernel
theorem iX10_layHistories_290 : wm_iv t_X10_layHistories t_X10_isFixed 290 := ⟨234, wd_1441, dX10_layHistories_290⟩
theorem dX10_layHistories_293 : decode t_X10_layHistories.2.1 293 = .ok (.ifCond .eq 7, 3) := by decide +kernel
theorem dX10_layHistories_296 : decode t_X10_layHistories.2.1 296 = .ok (.lconst 0, 1) := by decide +kernel
theorem dX10_layHistories_297 : decode t_X10_layHistories.2.1 297 = .ok (.goto 21, 3) := by decide +kernel
theorem dX10_layHistories_300 : decode t_X10_layHistories.2.1 300 = .ok (.aload_n 0, 1) := by decide +kernel
theorem dX10_layHistories_301 : decode t_X10_layHistories.2.1 301 = .ok (.getfield 86, 3) := by decide +kernel
theorem gX10_layHistories_301 : wm_gf t_X10_layHistories 301 10 39 := ⟨_, _, _, 86, rfl, by decide, wd_1153, dX10_layHistories_301⟩
theorem dX10_layHistories_304 : decode t_X10_layHistories.2.1 304 = .ok (.iload_n 2, 1) := by decide +kernel
theorem dX10_layHistories_305 : decode t_X10_layHistories.2.1 305 = .ok (.iconst 1, 1) := by decide +kernel
theorem dX10_layHistories_306 : decode t_X10_layHistories.2.1 306 = .ok (.iadd, 1) := by decide +kernel
theorem dX10_layHistories_307 : decode t_X10_layHistories.2.1 307 = .ok (.aload_n 0, 1) := by decide +kernel
theorem dX10_layHistories_308 : decode t_X10_layHistories.2.1 308 = .ok (.iload_n 3, 1) := by decide +kernel
theorem dX10_layHistories_309 : decode t_X10_layHistories.2.1 309 = .ok (.iload 6, 2) := by decide +kernel
theorem dX10_layHistories_311 : decode t_X10_layHistories.2.1 311 = .ok (.invokevirtual 276, 3) := by decide +kernel
theorem iX10_layHistories_311 : wm_iv t_X10_layHistories t_X10_turnedOf 311 := ⟨276, wd_1540, dX10_layHistories_311⟩
theorem dX10_layHistories_314 : decode t_X10_layHistories.2.1 314 = .ok (.invokestatic 283, 3) := by decide +kernel
theorem iX10_layHistories_314 : wm_is t_X10_layHistories t_X10_spot 314 := ⟨283, wd_1563, dX10_layHistories_314⟩
theorem dX10_layHistories_317 : decode t_X10_layHistories.2.1 317 = .ok (.laload, 1) := by decide +kernel
theorem dX10_layHistories_318 : decode t_X10_layHistories.2.1 318 = .ok (.ladd, 1) := by decide +kernel
theorem dX10_layHistories_319 : decode t_X10_layHistories.2.1 319 = .ok (.lstore 4, 2) := by decide +kernel
theorem dX10_layHistories_321 : decode t_X10_layHistories.2.1 321 = .ok (.iinc 6 1, 3) := by decide +kernel
theorem dX10_layHistories_324 : decode t_X10_layHistories.2.1 324 = .ok (.goto (-53), 3) := by decide +kernel
theorem dX10_layHistories_327 : decode t_X10_layHistories.2.1 327 = .ok (.aload_n 0, 1) := by decide +kernel
theorem dX10_layHistories_328 : decode t_X10_layHistories.2.1 328 = .ok (.getfield 86, 3) := by decide +kernel
theorem gX10_layHistories_328 : wm_gf t_X10_layHistories 328 10 39 := ⟨_, _, _, 86, rfl, by decide, wd_1153, dX10_layHistories_328⟩
theorem dX10_layHistories_331 : decode t_X10_layHistories.2.1 331 = .ok (.iload_n 2, 1) := by decide +kernel
theorem dX10_layHistories_332 : decode t_X10_layHistories.2.1 332 = .ok (.iload_n 3, 1) := by decide +kernel
theorem dX10_layHistories_333 : decode t_X10_layHistories.2.1 333 = .ok (.invokestatic 283, 3) := by decide +kernel
theorem iX10_layHistories_333 : wm_is t_X10_layHistories t_X10_spot 333 := ⟨283, wd_1563, dX10_layHistories_333⟩
theorem dX10_layHistories_336 : decode t_X10_layHistories.2.1 336 = .ok (.lload 4, 2) := by decide +kernel
theorem dX10_layHistories_338 : decode t_X10_layHistories.2.1 338 = .ok (.lastore, 1) := by decide +kernel
theorem dX10_layHistories_339 : decode t_X10_layHistories.2.1 339 = .ok (.iinc 3 1, 3) := by decide +kernel
theorem dX10_layHistories_342 : decode t_X10_layHistories.2.1 342 = .ok (.goto (-123), 3) := by decide +kernel
theorem dX10_layHistories_345 : decode t_X10_layHistories.2.1 345 = .ok (.iinc 2 (-1), 3) := by decide +kernel
theorem dX10_layHistories_348 : decode t_X10_layHistories.2.1 348 = .ok (.goto (-135), 3) := by decide +kernel
theorem dX10_layHistories_351 : decode t_X10_layHistories.2.1 351 = .ok (.return_, 1) := by decide +kernel
theorem wd_1558 : Cond.code yX10_areYears cX10_areYears 1 (some .boolean) ∈ lw_gd := List.mem_filter.mpr ⟨List.mem_of_getElem? (i := 1558) (by decide +kernel), by decide +kernel⟩
theorem wd_1557 : Cond.static yX10_areYears ∈ lw_gd := List.mem_filter.mpr ⟨List.mem_of_getElem? (i := 1557) (by decide +kernel), by decide +kernel⟩
theorem vX10_areYears : wm_calS t_X10_areYears 1 := ⟨⟨wd_1558, wd_88, by decide +kernel, by decide +kernel, by decide +kernel⟩, wd_1557⟩
theorem dX10_areYears_0 : decode t_X10_areYears.2.1 0 = .ok (.iload_n 0, 1) := by decide +kernel
theorem dX10_areYears_1 : decode t_X10_areYears.2.1 1 = .ok (.iconst 0, 1) := by decide +kernel
theorem dX10_areYears_2 : decode t_X10_areYears.2.1 2 = .ok (.bipush 9, 2) := by decide +kernel
theorem dX10_areYears_4 : decode t_X10_areYears.2.1 4 = .ok (.invokestatic 97, 3) := by decide +kernel
theorem iX10_areYears_4 : wm_is t_X10_areYears t_X10_in 4 := ⟨97, wd_1248, dX10_areYears_4⟩
theorem dX10_areYears_7 : decode t_X10_areYears.2.1 7 = .ok (.ireturn, 1) := by decide +kernel
theorem wd_1555 : Cond.code yX10_histories cX10_histories 2 (some .int) ∈ lw_gd := List.mem_filter.mpr ⟨List.mem_of_getElem? (i := 1555) (by decide +kernel), by decide +kernel⟩
theorem wd_1553 : Cond.instanceMethod yX10_histories ∈ lw_gd := List.mem_filter.mpr ⟨List.mem_of_getElem? (i := 1553) (by decide +kernel), by decide +kernel⟩
theorem wd_1554 : Cond.selects RX10 yX10_histories yX10_histories ∈ lw_gd := List.mem_filter.mpr ⟨List.mem_of_getElem? (i := 1554) (by decide +kernel), by decide +kernel⟩
theorem vX10_histories : wm_calV t_X10_histories 1 := ⟨⟨wd_1555, wd_88, by decide +kernel, by decide +kernel, by decide +kernel⟩, wd_1553, wd_1554⟩
theorem dX10_histories_0 : decode t_X10_histories.2.1 0 = .ok (.iload_n 1, 1) := by decide +kernel
theorem dX10_histories_1 : decode t_X10_histories.2.1 1 = .ok (.invokestatic 289, 3) := by decide +kernel
theorem wd_1556 : Cond.methodLink RX10 289 yX10_areYears ∈ lw_gd := List.mem_filter.mpr ⟨List.mem_of_getElem? (i := 1556) (by decide +kernel), by decide +kernel⟩
theorem iX10_histories_1 : wm_is t_X10_histories t_X10_areYears 1 := ⟨289, wd_1556, dX10_histories_1⟩
theorem dX10_histories_4 : decode t_X10_histories.2.1 4 = .ok (.ifCond .ne 5, 3) := by decide +kernel
theorem dX10_histories_7 : decode t_X10_histories.2.1 7 = .ok (.iconst (-1), 1) := by decide +kernel
theorem dX10_histories_8 : decode t_X10_histories.2.1 8 = .ok (.ireturn, 1) := by decide +kernel
theorem dX10_histories_9 : decode t_X10_histories.2.1 9 = .ok (.aload_n 0, 1) := by decide +kernel
theorem dX10_histories_10 : decode t_X10_histories.2.1 10 = .ok (.iload_n 1, 1) := by decide +kernel
theorem dX10_histories_11 : decode t_X10_histories.2.1 11 = .ok (.invokevirtual 292, 3) := by decide +kernel
theorem wd_1559 : Cond.methodLink RX10 292 yX10_layHistories ∈ lw_gd := List.mem_filter.mpr ⟨List.mem_of_getElem? (i := 1559) (by decide +kernel), by decide +kernel⟩
theorem iX10_histories_11 : wm_iv t_X10_histories t_X10_layHistories 11 := ⟨292, wd_1559, dX10_histories_11⟩
theorem dX10_histories_14 : decode t_X10_histories.2.1 14 = .ok (.aload_n 0, 1) := by decide +kernel
theorem dX10_histories_15 : decode t_X10_histories.2.1 15 = .ok (.getfield 86, 3) := by decide +kernel
theorem gX10_histories_15 : wm_gf t_X10_histories 15 10 39 := ⟨_, _, _, 86, rfl, by decide, wd_1153, dX10_histories_15⟩
theorem dX10_histories_18 : decode t_X10_histories.2.1 18 = .ok (.iconst 0, 1) := by decide +kernel
theorem dX10_histories_19 : decode t_X10_histories.2.1 19 = .ok (.laload, 1) := by decide +kernel
theorem dX10_histories_20 : decode t_X10_histories.2.1 20 = .ok (.lconst 0, 1) := by decide +kernel
theorem dX10_histories_21 : decode t_X10_histories.2.1 21 = .ok (.lcmp, 1) := by decide +kernel
theorem dX10_histories_22 : decode t_X10_histories.2.1 22 = .ok (.ifCond .ne 11, 3) := by decide +kernel
theorem dX10_histories_25 : decode t_X10_histories.2.1 25 = .ok (.aload_n 0, 1) := by decide +kernel
theorem dX10_histories_26 : decode t_X10_histories.2.1 26 = .ok (.iconst 4, 1) := by decide +kernel
theorem dX10_histories_27 : decode t_X10_histories.2.1 27 = .ok (.invokevirtual 111, 3) := by decide +kernel
theorem iX10_histories_27 : wm_iv t_X10_histories t_X10_meets 27 := ⟨111, wd_1270, dX10_histories_27⟩
theorem dX10_histories_30 : decode t_X10_histories.2.1 30 = .ok (.goto 15, 3) := by decide +kernel
theorem dX10_histories_33 : decode t_X10_histories.2.1 33 = .ok (.aload_n 0, 1) := by decide +kernel
theorem dX10_histories_34 : decode t_X10_histories.2.1 34 = .ok (.aload_n 0, 1) := by decide +kernel
theorem dX10_histories_35 : decode t_X10_histories.2.1 35 = .ok (.getfield 86, 3) := by decide +kernel
theorem gX10_histories_35 : wm_gf t_X10_histories 35 10 39 := ⟨_, _, _, 86, rfl, by decide, wd_1153, dX10_histories_35⟩
theorem dX10_histories_38 : decode t_X10_histories.2.1 38 = .ok (.iconst 0, 1) := by decide +kernel
theorem dX10_histories_39 : decode t_X10_histories.2.1 39 = .ok (.laload, 1) := by decide +kernel
theorem dX10_histories_40 : decode t_X10_histories.2.1 40 = .ok (.lconst 1, 1) := by decide +kernel
theorem dX10_histories_41 : decode t_X10_histories.2.1 41 = .ok (.iconst 1, 1) := by decide +kernel
theorem dX10_histories_42 : decode t_X10_histories.2.1 42 = .ok (.invokevirtual 272, 3) := by decide +kernel
theorem iX10_histories_42 : wm_iv t_X10_histories t_X10_fraction 42 := ⟨272, wd_1520, dX10_histories_42⟩
theorem dX10_histories_45 : decode t_X10_histories.2.1 45 = .ok (.ireturn, 1) := by decide +kernel
theorem wd_1573 : Cond.code yX10_when cX10_when 8 (some .int) ∈ lw_gd := List.mem_filter.mpr ⟨List.mem_of_getElem? (i := 1573) (by decide +kernel), by decide +kernel⟩
theorem wd_1571 : Cond.instanceMethod yX10_when ∈ lw_gd := List.mem_filter.mpr ⟨List.mem_of_getElem? (i := 1571) (by decide +kernel), by decide +kernel⟩
theorem wd_1572 : Cond.selects RX10 yX10_when yX10_when ∈ lw_gd := List.mem_filter.mpr ⟨List.mem_of_getElem? (i := 1572) (by decide +kernel), by decide +kernel⟩
theorem vX10_when : wm_calV t_X10_when 2 := ⟨⟨wd_1573, wd_88, by decide +kernel, by decide +kernel, by decide +kernel⟩, wd_1571, wd_1572⟩
theorem dX10_when_0 : decode t_X10_when.2.1 0 = .ok (.iload_n 1, 1) := by decide +kernel
theorem dX10_when_1 : decode t_X10_when.2.1 1 = .ok (.invokestatic 289, 3) := by decide +kernel
theorem iX10_when_1 : wm_is t_X10_when t_X10_areYears 1 := ⟨289, wd_1556, dX10_when_1⟩
theorem dX10_when_4 : decode t_X10_when.2.1 4 = .ok (.ifCond .eq 10, 3) := by decide +kernel
theorem dX10_when_7 : decode t_X10_when.2.1 7 = .ok (.iload_n 2, 1) := by decide +kernel
theorem dX10_when_8 : decode t_X10_when.2.1 8 = .ok (.invokestatic 189, 3) := by decide +kernel
theorem iX10_when_8 : wm_is t_X10_when t_X10_isLaw 8 := ⟨189, wd_1374, dX10_when_8⟩
theorem dX10_when_11 : decode t_X10_when.2.1 11 = .ok (.ifCond .ne 5, 3) := by decide +kernel
theorem dX10_when_14 : decode t_X10_when.2.1 14 = .ok (.iconst (-1), 1) := by decide +kernel
theorem dX10_when_15 : decode t_X10_when.2.1 15 = .ok (.ireturn, 1) := by decide +kernel
theorem dX10_when_16 : decode t_X10_when.2.1 16 = .ok (.aload_n 0, 1) := by decide +kernel
theorem dX10_when_17 : decode t_X10_when.2.1 17 = .ok (.getfield 47, 3) := by decide +kernel
theorem gX10_when_17 : wm_gf t_X10_when 17 10 25 := ⟨_, _, _, 47, rfl, by decide, wd_1139, dX10_when_17⟩
theorem dX10_when_20 : decode t_X10_when.2.1 20 = .ok (.iload_n 2, 1) := by decide +kernel
theorem dX10_when_21 : decode t_X10_when.2.1 21 = .ok (.iaload, 1) := by decide +kernel
theorem dX10_when_22 : decode t_X10_when.2.1 22 = .ok (.ifCond .ge 9, 3) := by decide +kernel
theorem dX10_when_25 : decode t_X10_when.2.1 25 = .ok (.aload_n 0, 1) := by decide +kernel
theorem dX10_when_26 : decode t_X10_when.2.1 26 = .ok (.iconst 1, 1) := by decide +kernel
theorem dX10_when_27 : decode t_X10_when.2.1 27 = .ok (.invokevirtual 111, 3) := by decide +kernel
theorem iX10_when_27 : wm_iv t_X10_when t_X10_meets 27 := ⟨111, wd_1270, dX10_when_27⟩
theorem dX10_when_30 : decode t_X10_when.2.1 30 = .ok (.ireturn, 1) := by decide +kernel
theorem dX10_when_31 : decode t_X10_when.2.1 31 = .ok (.aload_n 0, 1) := by decide +kernel
theorem dX10_when_32 : decode t_X10_when.2.1 32 = .ok (.iload_n 1, 1) := by decide +kernel
theorem dX10_when_33 : decode t_X10_when.2.1 33 = .ok (.invokevirtual 292, 3) := by decide +kernel
theorem iX10_when_33 : wm_iv t_X10_when t_X10_layHistories 33 := ⟨292, wd_1559, dX10_when_33⟩
theorem dX10_when_36 : decode t_X10_when.2.1 36 = .ok (.aload_n 0, 1) := by decide +kernel
theorem dX10_when_37 : decode t_X10_when.2.1 37 = .ok (.getfield 86, 3) := by decide +kernel
theorem gX10_when_37 : wm_gf t_X10_when 37 10 39 := ⟨_, _, _, 86, rfl, by decide, wd_1153, dX10_when_37⟩
theorem dX10_when_40 : decode t_X10_when.2.1 40 = .ok (.iconst 0, 1) := by decide +kernel
theorem dX10_when_41 : decode t_X10_when.2.1 41 = .ok (.laload, 1) := by decide +kernel
theorem dX10_when_42 : decode t_X10_when.2.1 42 = .ok (.lconst 0, 1) := by decide +kernel
theorem dX10_when_43 : decode t_X10_when.2.1 43 = .ok (.lcmp, 1) := by decide +kernel
theorem dX10_when_44 : decode t_X10_when.2.1 44 = .ok (.ifCond .ne 9, 3) := by decide +kernel
theorem dX10_when_47 : decode t_X10_when.2.1 47 = .ok (.aload_n 0, 1) := by decide +kernel
theorem dX10_when_48 : decode t_X10_when.2.1 48 = .ok (.iconst 4, 1) := by decide +kernel
theorem dX10_when_49 : decode t_X10_when.2.1 49 = .ok (.invokevirtual 111, 3) := by decide +kernel
theorem iX10_when_49 : wm_iv t_X10_when t_X10_meets 49 := ⟨111, wd_1270, dX10_when_49⟩
theorem dX10_when_52 : decode t_X10_when.2.1 52 = .ok (.ireturn, 1) := by decide +kernel
theorem dX10_when_53 : decode t_X10_when.2.1 53 = .ok (.aload_n 0, 1) := by decide +kernel
theorem dX10_when_54 : decode t_X10_when.2.1 54 = .ok (.iconst 1, 1) := by decide +kernel
theorem dX10_when_55 : decode t_X10_when.2.1 55 = .ok (.invokevirtual 256, 3) := by decide +kernel
theorem iX10_when_55 : wm_iv t_X10_when t_X10_layStands 55 := ⟨256, wd_1496, dX10_when_55⟩
theorem dX10_when_58 : decode t_X10_when.2.1 58 = .ok (.iconst 0, 1) := by decide +kernel
theorem dX10_when_59 : decode t_X10_when.2.1 59 = .ok (.istore_n 3, 1) := by decide +kernel
theorem dX10_when_60 : decode t_X10_when.2.1 60 = .ok (.iconst 0, 1) := by decide +kernel
theorem dX10_when_61 : decode t_X10_when.2.1 61 = .ok (.istore 4, 2) := by decide +kernel
theorem dX10_when_63 : decode t_X10_when.2.1 63 = .ok (.iconst 0, 1) := by decide +kernel
theorem dX10_when_64 : decode t_X10_when.2.1 64 = .ok (.istore 5, 2) := by decide +kernel
theorem dX10_when_66 : decode t_X10_when.2.1 66 = .ok (.iload 5, 2) := by decide +kernel
theorem dX10_when_68 : decode t_X10_when.2.1 68 = .ok (.iload_n 1, 1) := by decide +kernel
theorem dX10_when_69 : decode t_X10_when.2.1 69 = .ok (.if_icmp .gt 116, 3) := by decide +kernel
theorem dX10_when_72 : decode t_X10_when.2.1 72 = .ok (.iconst 1, 1) := by decide +kernel
theorem dX10_when_73 : decode t_X10_when.2.1 73 = .ok (.istore 6, 2) := by decide +kernel
theorem dX10_when_75 : decode t_X10_when.2.1 75 = .ok (.iconst 0, 1) := by decide +kernel
theorem dX10_when_76 : decode t_X10_when.2.1 76 = .ok (.istore 7, 2) := by decide +kernel
theorem dX10_when_78 : decode t_X10_when.2.1 78 = .ok (.iload 7, 2) := by decide +kernel
theorem dX10_when_80 : decode t_X10_when.2.1 80 = .ok (.aload_n 0, 1) := by decide +kernel
theorem dX10_when_81 : decode t_X10_when.2.1 81 = .ok (.invokevirtual 244, 3) := by decide +kernel
theorem iX10_when_81 : wm_iv t_X10_when t_X10_stateMany 81 := ⟨244, wd_1488, dX10_when_81⟩
theorem dX10_when_84 : decode t_X10_when.2.1 84 = .ok (.if_icmp .ge 79, 3) := by decide +kernel
theorem dX10_when_87 : decode t_X10_when.2.1 87 = .ok (.aload_n 0, 1) := by decide +kernel
theorem dX10_when_88 : decode t_X10_when.2.1 88 = .ok (.getfield 86, 3) := by decide +kernel
theorem gX10_when_88 : wm_gf t_X10_when 88 10 39 := ⟨_, _, _, 86, rfl, by decide, wd_1153, dX10_when_88⟩
theorem dX10_when_91 : decode t_X10_when.2.1 91 = .ok (.iload 5, 2) := by decide +kernel
theorem dX10_when_93 : decode t_X10_when.2.1 93 = .ok (.iload 7, 2) := by decide +kernel
theorem dX10_when_95 : decode t_X10_when.2.1 95 = .ok (.invokestatic 283, 3) := by decide +kernel
theorem iX10_when_95 : wm_is t_X10_when t_X10_spot 95 := ⟨283, wd_1563, dX10_when_95⟩
theorem dX10_when_98 : decode t_X10_when.2.1 98 = .ok (.laload, 1) := by decide +kernel
theorem dX10_when_99 : decode t_X10_when.2.1 99 = .ok (.lconst 0, 1) := by decide +kernel
theorem dX10_when_100 : decode t_X10_when.2.1 100 = .ok (.lcmp, 1) := by decide +kernel
theorem dX10_when_101 : decode t_X10_when.2.1 101 = .ok (.ifCond .le 56, 3) := by decide +kernel
theorem dX10_when_104 : decode t_X10_when.2.1 104 = .ok (.iload 6, 2) := by decide +kernel
theorem dX10_when_106 : decode t_X10_when.2.1 106 = .ok (.ifCond .eq 21, 3) := by decide +kernel
theorem dX10_when_109 : decode t_X10_when.2.1 109 = .ok (.aload_n 0, 1) := by decide +kernel
theorem dX10_when_110 : decode t_X10_when.2.1 110 = .ok (.getfield 65, 3) := by decide +kernel
theorem gX10_when_110 : wm_gf t_X10_when 110 10 31 := ⟨_, _, _, 65, rfl, by decide, wd_1145, dX10_when_110⟩
theorem dX10_when_113 : decode t_X10_when.2.1 113 = .ok (.iload 7, 2) := by decide +kernel
theorem dX10_when_115 : decode t_X10_when.2.1 115 = .ok (.iaload, 1) := by decide +kernel
theorem dX10_when_116 : decode t_X10_when.2.1 116 = .ok (.iload_n 2, 1) := by decide +kernel
theorem dX10_when_117 : decode t_X10_when.2.1 117 = .ok (.invokestatic 179, 3) := by decide +kernel
theorem iX10_when_117 : wm_is t_X10_when t_X10_has 117 := ⟨179, wd_1364, dX10_when_117⟩
theorem dX10_when_120 : decode t_X10_when.2.1 120 = .ok (.ifCond .eq 7, 3) := by decide +kernel
theorem dX10_when_123 : decode t_X10_when.2.1 123 = .ok (.iconst 1, 1) := by decide +kernel
theorem dX10_when_124 : decode t_X10_when.2.1 124 = .ok (.goto 4, 3) := by decide +kernel
theorem dX10_when_127 : decode t_X10_when.2.1 127 = .ok (.iconst 0, 1) := by decide +kernel
theorem dX10_when_128 : decode t_X10_when.2.1 128 = .ok (.istore 6, 2) := by decide +kernel
theorem dX10_when_130 : decode t_X10_when.2.1 130 = .ok (.iload 4, 2) := by decide +kernel
theorem dX10_when_132 : decode t_X10_when.2.1 132 = .ok (.aload_n 0, 1) := by decide +kernel
theorem dX10_when_133 : decode t_X10_when.2.1 133 = .ok (.getfield 65, 3) := by decide +kernel
theorem gX10_when_133 : wm_gf t_X10_when 133 10 31 := ⟨_, _, _, 65, rfl, by decide, wd_1145, dX10_when_133⟩
theorem dX10_when_136 : decode t_X10_when.2.1 136 = .ok (.iload 7, 2) := by decide +kernel
theorem dX10_when_138 : decode t_X10_when.2.1 138 = .ok (.iaload, 1) := by decide +kernel
theorem dX10_when_139 : decode t_X10_when.2.1 139 = .ok (.iload_n 2, 1) := by decide +kernel
theorem dX10_when_140 : decode t_X10_when.2.1 140 = .ok (.invokestatic 179, 3) := by decide +kernel
theorem iX10_when_140 : wm_is t_X10_when t_X10_has 140 := ⟨179, wd_1364, dX10_when_140⟩
theorem dX10_when_143 : decode t_X10_when.2.1 143 = .ok (.ifCond .eq 10, 3) := by decide +kernel
theorem dX10_when_146 : decode t_X10_when.2.1 146 = .ok (.iconst 1, 1) := by decide +kernel
theorem dX10_when_147 : decode t_X10_when.2.1 147 = .ok (.iload 5, 2) := by decide +kernel
theorem dX10_when_149 : decode t_X10_when.2.1 149 = .ok (.ishl, 1) := by decide +kernel
theorem dX10_when_150 : decode t_X10_when.2.1 150 = .ok (.goto 4, 3) := by decide +kernel
theorem dX10_when_153 : decode t_X10_when.2.1 153 = .ok (.iconst 0, 1) := by decide +kernel
theorem dX10_when_154 : decode t_X10_when.2.1 154 = .ok (.ior, 1) := by decide +kernel
theorem dX10_when_155 : decode t_X10_when.2.1 155 = .ok (.istore 4, 2) := by decide +kernel
theorem dX10_when_157 : decode t_X10_when.2.1 157 = .ok (.iinc 7 1, 3) := by decide +kernel
theorem dX10_when_160 : decode t_X10_when.2.1 160 = .ok (.goto (-82), 3) := by decide +kernel
theorem dX10_when_163 : decode t_X10_when.2.1 163 = .ok (.iload_n 3, 1) := by decide +kernel
theorem dX10_when_164 : decode t_X10_when.2.1 164 = .ok (.iload 6, 2) := by decide +kernel
theorem dX10_when_166 : decode t_X10_when.2.1 166 = .ok (.ifCond .eq 10, 3) := by decide +kernel
theorem dX10_when_169 : decode t_X10_when.2.1 169 = .ok (.iconst 1, 1) := by decide +kernel
theorem dX10_when_170 : decode t_X10_when.2.1 170 = .ok (.iload 5, 2) := by decide +kernel
theorem dX10_when_172 : decode t_X10_when.2.1 172 = .ok (.ishl, 1) := by decide +kernel
theorem dX10_when_173 : decode t_X10_when.2.1 173 = .ok (.goto 4, 3) := by decide +kernel
theorem dX10_when_176 : decode t_X10_when.2.1 176 = .ok (.iconst 0, 1) := by decide +kernel
theorem dX10_when_177 : decode t_X10_when.2.1 177 = .ok (.ior, 1) := by decide +kernel
theorem dX10_when_178 : decode t_X10_when.2.1 178 = .ok (.istore_n 3, 1) := by decide +kernel
theorem dX10_when_179 : decode t_X10_when.2.1 179 = .ok (.iinc 5 1, 3) := by decide +kernel
theorem dX10_when_182 : decode t_X10_when.2.1 182 = .ok (.goto (-116), 3) := by decide +kernel
theorem dX10_when_185 : decode t_X10_when.2.1 185 = .ok (.aload_n 0, 1) := by decide +kernel
theorem dX10_when_186 : decode t_X10_when.2.1 186 = .ok (.iload 4, 2) := by decide +kernel
theorem dX10_when_188 : decode t_X10_when.2.1 188 = .ok (.iload_n 3, 1) := by decide +kernel
theorem dX10_when_189 : decode t_X10_when.2.1 189 = .ok (.invokevirtual 119, 3) := by decide +kernel
theorem iX10_when_189 : wm_iv t_X10_when t_X10_tells 189 := ⟨119, wd_1282, dX10_when_189⟩
theorem dX10_when_192 : decode t_X10_when.2.1 192 = .ok (.ireturn, 1) := by decide +kernel
theorem wd_1577 : Cond.code yX10_turned cX10_turned 7 (some .int) ∈ lw_gd := List.mem_filter.mpr ⟨List.mem_of_getElem? (i := 1577) (by decide +kernel), by decide +kernel⟩
theorem wd_1575 : Cond.instanceMethod yX10_turned ∈ lw_gd := List.mem_filter.mpr ⟨List.mem_of_getElem? (i := 1575) (by decide +kernel), by decide +kernel⟩
theorem wd_1576 : Cond.selects RX10 yX10_turned yX10_turned ∈ lw_gd := List.mem_filter.mpr ⟨List.mem_of_getElem? (i := 1576) (by decide +kernel), by decide +kernel⟩
theorem vX10_turned : wm_calV t_X10_turned 2 := ⟨⟨wd_1577, wd_88, by decide +kernel, by decide +kernel, by decide +kernel⟩, wd_1575, wd_1576⟩
theorem dX10_turned_0 : decode t_X10_turned.2.1 0 = .ok (.iload_n 1, 1) := by decide +kernel
theorem dX10_turned_1 : decode t_X10_turned.2.1 1 = .ok (.invokestatic 289, 3) := by decide +kernel
theorem iX10_turned_1 : wm_is t_X10_turned t_X10_areYears 1 := ⟨289, wd_1556, dX10_turned_1⟩
theorem dX10_turned_4 : decode t_X10_turned.2.1 4 = .ok (.ifCond .eq 12, 3) := by decide +kernel
theorem dX10_turned_7 : decode t_X10_turned.2.1 7 = .ok (.iload_n 2, 1) := by decide +kernel
theorem dX10_turned_8 : decode t_X10_turned.2.1 8 = .ok (.iconst 1, 1) := by decide +kernel
theorem dX10_turned_9 : decode t_X10_turned.2.1 9 = .ok (.iload_n 1, 1) := by decide +kernel
theorem dX10_turned_10 : decode t_X10_turned.2.1 10 = .ok (.invokestatic 97, 3) := by decide +kernel
theorem iX10_turned_10 : wm_is t_X10_turned t_X10_in 10 := ⟨97, wd_1248, dX10_turned_10⟩
theorem dX10_turned_13 : decode t_X10_turned.2.1 13 = .ok (.ifCond .ne 5, 3) := by decide +kernel
theorem dX10_turned_16 : decode t_X10_turned.2.1 16 = .ok (.iconst (-1), 1) := by decide +kernel
theorem dX10_turned_17 : decode t_X10_turned.2.1 17 = .ok (.ireturn, 1) := by decide +kernel
theorem dX10_turned_18 : decode t_X10_turned.2.1 18 = .ok (.aload_n 0, 1) := by decide +kernel
theorem dX10_turned_19 : decode t_X10_turned.2.1 19 = .ok (.iload_n 1, 1) := by decide +kernel
theorem dX10_turned_20 : decode t_X10_turned.2.1 20 = .ok (.invokevirtual 292, 3) := by decide +kernel
theorem iX10_turned_20 : wm_iv t_X10_turned t_X10_layHistories 20 := ⟨292, wd_1559, dX10_turned_20⟩
theorem dX10_turned_23 : decode t_X10_turned.2.1 23 = .ok (.aload_n 0, 1) := by decide +kernel
theorem dX10_turned_24 : decode t_X10_turned.2.1 24 = .ok (.getfield 86, 3) := by decide +kernel
theorem gX10_turned_24 : wm_gf t_X10_turned 24 10 39 := ⟨_, _, _, 86, rfl, by decide, wd_1153, dX10_turned_24⟩
theorem dX10_turned_27 : decode t_X10_turned.2.1 27 = .ok (.iconst 0, 1) := by decide +kernel
theorem dX10_turned_28 : decode t_X10_turned.2.1 28 = .ok (.laload, 1) := by decide +kernel
theorem dX10_turned_29 : decode t_X10_turned.2.1 29 = .ok (.lconst 0, 1) := by decide +kernel
theorem dX10_turned_30 : decode t_X10_turned.2.1 30 = .ok (.lcmp, 1) := by decide +kernel
theorem dX10_turned_31 : decode t_X10_turned.2.1 31 = .ok (.ifCond .ne 9, 3) := by decide +kernel
theorem dX10_turned_34 : decode t_X10_turned.2.1 34 = .ok (.aload_n 0, 1) := by decide +kernel
theorem dX10_turned_35 : decode t_X10_turned.2.1 35 = .ok (.iconst 4, 1) := by decide +kernel
theorem dX10_turned_36 : decode t_X10_turned.2.1 36 = .ok (.invokevirtual 111, 3) := by decide +kernel
theorem iX10_turned_36 : wm_iv t_X10_turned t_X10_meets 36 := ⟨111, wd_1270, dX10_turned_36⟩
theorem dX10_turned_39 : decode t_X10_turned.2.1 39 = .ok (.ireturn, 1) := by decide +kernel
theorem dX10_turned_40 : decode t_X10_turned.2.1 40 = .ok (.iconst 0, 1) := by decide +kernel
theorem dX10_turned_41 : decode t_X10_turned.2.1 41 = .ok (.istore_n 3, 1) := by decide +kernel
theorem dX10_turned_42 : decode t_X10_turned.2.1 42 = .ok (.iconst 0, 1) := by decide +kernel
theorem dX10_turned_43 : decode t_X10_turned.2.1 43 = .ok (.istore 4, 2) := by decide +kernel
theorem dX10_turned_45 : decode t_X10_turned.2.1 45 = .ok (.iconst 0, 1) := by decide +kernel
theorem dX10_turned_46 : decode t_X10_turned.2.1 46 = .ok (.istore 5, 2) := by decide +kernel
theorem dX10_turned_48 : decode t_X10_turned.2.1 48 = .ok (.iload 5, 2) := by decide +kernel
theorem dX10_turned_50 : decode t_X10_turned.2.1 50 = .ok (.aload_n 0, 1) := by decide +kernel
theorem dX10_turned_51 : decode t_X10_turned.2.1 51 = .ok (.invokevirtual 244, 3) := by decide +kernel
theorem iX10_turned_51 : wm_iv t_X10_turned t_X10_stateMany 51 := ⟨244, wd_1488, dX10_turned_51⟩
theorem dX10_turned_54 : decode t_X10_turned.2.1 54 = .ok (.if_icmp .ge 111, 3) := by decide +kernel
theorem dX10_turned_57 : decode t_X10_turned.2.1 57 = .ok (.aload_n 0, 1) := by decide +kernel
theorem dX10_turned_58 : decode t_X10_turned.2.1 58 = .ok (.getfield 86, 3) := by decide +kernel
theorem gX10_turned_58 : wm_gf t_X10_turned 58 10 39 := ⟨_, _, _, 86, rfl, by decide, wd_1153, dX10_turned_58⟩
theorem dX10_turned_61 : decode t_X10_turned.2.1 61 = .ok (.iload_n 2, 1) := by decide +kernel
theorem dX10_turned_62 : decode t_X10_turned.2.1 62 = .ok (.iconst 1, 1) := by decide +kernel
theorem dX10_turned_63 : decode t_X10_turned.2.1 63 = .ok (.isub, 1) := by decide +kernel
theorem dX10_turned_64 : decode t_X10_turned.2.1 64 = .ok (.iload 5, 2) := by decide +kernel
theorem dX10_turned_66 : decode t_X10_turned.2.1 66 = .ok (.invokestatic 283, 3) := by decide +kernel
theorem iX10_turned_66 : wm_is t_X10_turned t_X10_spot 66 := ⟨283, wd_1563, dX10_turned_66⟩
theorem dX10_turned_69 : decode t_X10_turned.2.1 69 = .ok (.laload, 1) := by decide +kernel
theorem dX10_turned_70 : decode t_X10_turned.2.1 70 = .ok (.lconst 0, 1) := by decide +kernel
theorem dX10_turned_71 : decode t_X10_turned.2.1 71 = .ok (.lcmp, 1) := by decide +kernel
theorem dX10_turned_72 : decode t_X10_turned.2.1 72 = .ok (.ifCond .le 87, 3) := by decide +kernel
theorem dX10_turned_75 : decode t_X10_turned.2.1 75 = .ok (.aload_n 0, 1) := by decide +kernel
theorem dX10_turned_76 : decode t_X10_turned.2.1 76 = .ok (.getfield 86, 3) := by decide +kernel
theorem gX10_turned_76 : wm_gf t_X10_turned 76 10 39 := ⟨_, _, _, 86, rfl, by decide, wd_1153, dX10_turned_76⟩
theorem dX10_turned_79 : decode t_X10_turned.2.1 79 = .ok (.iload_n 2, 1) := by decide +kernel
theorem dX10_turned_80 : decode t_X10_turned.2.1 80 = .ok (.iload 5, 2) := by decide +kernel
theorem dX10_turned_82 : decode t_X10_turned.2.1 82 = .ok (.invokestatic 283, 3) := by decide +kernel
theorem iX10_turned_82 : wm_is t_X10_turned t_X10_spot 82 := ⟨283, wd_1563, dX10_turned_82⟩
theorem dX10_turned_85 : decode t_X10_turned.2.1 85 = .ok (.laload, 1) := by decide +kernel
theorem dX10_turned_86 : decode t_X10_turned.2.1 86 = .ok (.lconst 0, 1) := by decide +kernel
theorem dX10_turned_87 : decode t_X10_turned.2.1 87 = .ok (.lcmp, 1) := by decide +kernel
theorem dX10_turned_88 : decode t_X10_turned.2.1 88 = .ok (.ifCond .le 7, 3) := by decide +kernel
theorem dX10_turned_91 : decode t_X10_turned.2.1 91 = .ok (.iconst 1, 1) := by decide +kernel
theorem dX10_turned_92 : decode t_X10_turned.2.1 92 = .ok (.goto 5, 3) := by decide +kernel
theorem dX10_turned_95 : decode t_X10_turned.2.1 95 = .ok (.iload 4, 2) := by decide +kernel
theorem dX10_turned_97 : decode t_X10_turned.2.1 97 = .ok (.istore 4, 2) := by decide +kernel
theorem dX10_turned_99 : decode t_X10_turned.2.1 99 = .ok (.iconst 0, 1) := by decide +kernel
theorem dX10_turned_100 : decode t_X10_turned.2.1 100 = .ok (.istore 6, 2) := by decide +kernel
theorem dX10_turned_102 : decode t_X10_turned.2.1 102 = .ok (.iload 6, 2) := by decide +kernel
theorem dX10_turned_104 : decode t_X10_turned.2.1 104 = .ok (.aload_n 0, 1) := by decide +kernel
theorem dX10_turned_105 : decode t_X10_turned.2.1 105 = .ok (.getfield 164, 3) := by decide +kernel
theorem gX10_turned_105 : wm_gf t_X10_turned 105 10 12 := ⟨_, _, _, 164, rfl, by decide, wd_1126, dX10_turned_105⟩
theorem dX10_turned_108 : decode t_X10_turned.2.1 108 = .ok (.if_icmp .ge 51, 3) := by decide +kernel
theorem dX10_turned_111 : decode t_X10_turned.2.1 111 = .ok (.iload_n 3, 1) := by decide +kernel
theorem dX10_turned_112 : decode t_X10_turned.2.1 112 = .ok (.aload_n 0, 1) := by decide +kernel
theorem dX10_turned_113 : decode t_X10_turned.2.1 113 = .ok (.iload 6, 2) := by decide +kernel
theorem dX10_turned_115 : decode t_X10_turned.2.1 115 = .ok (.invokevirtual 234, 3) := by decide +kernel
theorem iX10_turned_115 : wm_iv t_X10_turned t_X10_isFixed 115 := ⟨234, wd_1441, dX10_turned_115⟩
theorem dX10_turned_118 : decode t_X10_turned.2.1 118 = .ok (.ifCond .ne 32, 3) := by decide +kernel
theorem dX10_turned_121 : decode t_X10_turned.2.1 121 = .ok (.aload_n 0, 1) := by decide +kernel
theorem dX10_turned_122 : decode t_X10_turned.2.1 122 = .ok (.getfield 86, 3) := by decide +kernel
theorem gX10_turned_122 : wm_gf t_X10_turned 122 10 39 := ⟨_, _, _, 86, rfl, by decide, wd_1153, dX10_turned_122⟩
theorem dX10_turned_125 : decode t_X10_turned.2.1 125 = .ok (.iload_n 2, 1) := by decide +kernel
theorem dX10_turned_126 : decode t_X10_turned.2.1 126 = .ok (.aload_n 0, 1) := by decide +kernel
theorem dX10_turned_127 : decode t_X10_turned.2.1 127 = .ok (.iload 5, 2) := by decide +kernel
theorem dX10_turned_129 : decode t_X10_turned.2.1 129 = .ok (.iload 6, 2) := by decide +kernel
theorem dX10_turned_131 : decode t_X10_turned.2.1 131 = .ok (.invokevirtual 276, 3) := by decide +kernel
theorem iX10_turned_131 : wm_iv t_X10_turned t_X10_turnedOf 131 := ⟨276, wd_1540, dX10_turned_131⟩
theorem dX10_turned_134 : decode t_X10_turned.2.1 134 = .ok (.invokestatic 283, 3) := by decide +kernel
theorem iX10_turned_134 : wm_is t_X10_turned t_X10_spot 134 := ⟨283, wd_1563, dX10_turned_134⟩
theorem dX10_turned_137 : decode t_X10_turned.2.1 137 = .ok (.laload, 1) := by decide +kernel
theorem dX10_turned_138 : decode t_X10_turned.2.1 138 = .ok (.lconst 0, 1) := by decide +kernel
theorem dX10_turned_139 : decode t_X10_turned.2.1 139 = .ok (.lcmp, 1) := by decide +kernel
theorem dX10_turned_140 : decode t_X10_turned.2.1 140 = .ok (.ifCond .le 10, 3) := by decide +kernel
theorem dX10_turned_143 : decode t_X10_turned.2.1 143 = .ok (.iconst 1, 1) := by decide +kernel
theorem dX10_turned_144 : decode t_X10_turned.2.1 144 = .ok (.iload 6, 2) := by decide +kernel
theorem dX10_turned_146 : decode t_X10_turned.2.1 146 = .ok (.ishl, 1) := by decide +kernel
theorem dX10_turned_147 : decode t_X10_turned.2.1 147 = .ok (.goto 4, 3) := by decide +kernel
theorem dX10_turned_150 : decode t_X10_turned.2.1 150 = .ok (.iconst 0, 1) := by decide +kernel
theorem dX10_turned_151 : decode t_X10_turned.2.1 151 = .ok (.ior, 1) := by decide +kernel
theorem dX10_turned_152 : decode t_X10_turned.2.1 152 = .ok (.istore_n 3, 1) := by decide +kernel
theorem dX10_turned_153 : decode t_X10_turned.2.1 153 = .ok (.iinc 6 1, 3) := by decide +kernel
theorem dX10_turned_156 : decode t_X10_turned.2.1 156 = .ok (.goto (-54), 3) := by decide +kernel
theorem dX10_turned_159 : decode t_X10_turned.2.1 159 = .ok (.iinc 5 1, 3) := by decide +kernel
theorem dX10_turned_162 : decode t_X10_turned.2.1 162 = .ok (.goto (-114), 3) := by decide +kernel
theorem dX10_turned_165 : decode t_X10_turned.2.1 165 = .ok (.aload_n 0, 1) := by decide +kernel
theorem dX10_turned_166 : decode t_X10_turned.2.1 166 = .ok (.iload 4, 2) := by decide +kernel
theorem dX10_turned_168 : decode t_X10_turned.2.1 168 = .ok (.iload_n 3, 1) := by decide +kernel
theorem dX10_turned_169 : decode t_X10_turned.2.1 169 = .ok (.invokevirtual 119, 3) := by decide +kernel
theorem iX10_turned_169 : wm_iv t_X10_turned t_X10_tells 169 := ⟨119, wd_1282, dX10_turned_169⟩
theorem dX10_turned_172 : decode t_X10_turned.2.1 172 = .ok (.ireturn, 1) := by decide +kernel
theorem wd_1581 : Cond.code yX10_odds cX10_odds 7 (some .int) ∈ lw_gd := List.mem_filter.mpr ⟨List.mem_of_getElem? (i := 1581) (by decide +kernel), by decide +kernel⟩
theorem wd_1579 : Cond.instanceMethod yX10_odds ∈ lw_gd := List.mem_filter.mpr ⟨List.mem_of_getElem? (i := 1579) (by decide +kernel), by decide +kernel⟩
theorem wd_1580 : Cond.selects RX10 yX10_odds yX10_odds ∈ lw_gd := List.mem_filter.mpr ⟨List.mem_of_getElem? (i := 1580) (by decide +kernel), by decide +kernel⟩
theorem vX10_odds : wm_calV t_X10_odds 3 := ⟨⟨wd_1581, wd_88, by decide +kernel, by decide +kernel, by decide +kernel⟩, wd_1579, wd_1580⟩
theorem dX10_odds_0 : decode t_X10_odds.2.1 0 = .ok (.iload_n 1, 1) := by decide +kernel
theorem dX10_odds_1 : decode t_X10_odds.2.1 1 = .ok (.invokestatic 289, 3) := by decide +kernel
theorem iX10_odds_1 : wm_is t_X10_odds t_X10_areYears 1 := ⟨289, wd_1556, dX10_odds_1⟩
theorem dX10_odds_4 : decode t_X10_odds.2.1 4 = .ok (.ifCond .eq 19, 3) := by decide +kernel
theorem dX10_odds_7 : decode t_X10_odds.2.1 7 = .ok (.iload_n 2, 1) := by decide +kernel
theorem dX10_odds_8 : decode t_X10_odds.2.1 8 = .ok (.iconst 0, 1) := by decide +kernel
theorem dX10_odds_9 : decode t_X10_odds.2.1 9 = .ok (.iload_n 1, 1) := by decide +kernel
theorem dX10_odds_10 : decode t_X10_odds.2.1 10 = .ok (.invokestatic 97, 3) := by decide +kernel
theorem iX10_odds_10 : wm_is t_X10_odds t_X10_in 10 := ⟨97, wd_1248, dX10_odds_10⟩
theorem dX10_odds_13 : decode t_X10_odds.2.1 13 = .ok (.ifCond .eq 10, 3) := by decide +kernel
theorem dX10_odds_16 : decode t_X10_odds.2.1 16 = .ok (.iload_n 3, 1) := by decide +kernel
theorem dX10_odds_17 : decode t_X10_odds.2.1 17 = .ok (.invokestatic 189, 3) := by decide +kernel
theorem iX10_odds_17 : wm_is t_X10_odds t_X10_isLaw 17 := ⟨189, wd_1374, dX10_odds_17⟩
theorem dX10_odds_20 : decode t_X10_odds.2.1 20 = .ok (.ifCond .ne 5, 3) := by decide +kernel
theorem dX10_odds_23 : decode t_X10_odds.2.1 23 = .ok (.iconst (-1), 1) := by decide +kernel
theorem dX10_odds_24 : decode t_X10_odds.2.1 24 = .ok (.ireturn, 1) := by decide +kernel
theorem dX10_odds_25 : decode t_X10_odds.2.1 25 = .ok (.aload_n 0, 1) := by decide +kernel
theorem dX10_odds_26 : decode t_X10_odds.2.1 26 = .ok (.getfield 47, 3) := by decide +kernel
theorem gX10_odds_26 : wm_gf t_X10_odds 26 10 25 := ⟨_, _, _, 47, rfl, by decide, wd_1139, dX10_odds_26⟩
theorem dX10_odds_29 : decode t_X10_odds.2.1 29 = .ok (.iload_n 3, 1) := by decide +kernel
theorem dX10_odds_30 : decode t_X10_odds.2.1 30 = .ok (.iaload, 1) := by decide +kernel
theorem dX10_odds_31 : decode t_X10_odds.2.1 31 = .ok (.ifCond .ge 9, 3) := by decide +kernel
theorem dX10_odds_34 : decode t_X10_odds.2.1 34 = .ok (.aload_n 0, 1) := by decide +kernel
theorem dX10_odds_35 : decode t_X10_odds.2.1 35 = .ok (.iconst 1, 1) := by decide +kernel
theorem dX10_odds_36 : decode t_X10_odds.2.1 36 = .ok (.invokevirtual 111, 3) := by decide +kernel
theorem iX10_odds_36 : wm_iv t_X10_odds t_X10_meets 36 := ⟨111, wd_1270, dX10_odds_36⟩
theorem dX10_odds_39 : decode t_X10_odds.2.1 39 = .ok (.ireturn, 1) := by decide +kernel
theorem dX10_odds_40 : decode t_X10_odds.2.1 40 = .ok (.aload_n 0, 1) := by decide +kernel
theorem dX10_odds_41 : decode t_X10_odds.2.1 41 = .ok (.iload_n 1, 1) := by decide +kernel
theorem dX10_odds_42 : decode t_X10_odds.2.1 42 = .ok (.invokevirtual 292, 3) := by decide +kernel
theorem iX10_odds_42 : wm_iv t_X10_odds t_X10_layHistories 42 := ⟨292, wd_1559, dX10_odds_42⟩
theorem dX10_odds_45 : decode t_X10_odds.2.1 45 = .ok (.aload_n 0, 1) := by decide +kernel
theorem dX10_odds_46 : decode t_X10_odds.2.1 46 = .ok (.getfield 86, 3) := by decide +kernel
theorem gX10_odds_46 : wm_gf t_X10_odds 46 10 39 := ⟨_, _, _, 86, rfl, by decide, wd_1153, dX10_odds_46⟩
theorem dX10_odds_49 : decode t_X10_odds.2.1 49 = .ok (.iconst 0, 1) := by decide +kernel
theorem dX10_odds_50 : decode t_X10_odds.2.1 50 = .ok (.laload, 1) := by decide +kernel
theorem dX10_odds_51 : decode t_X10_odds.2.1 51 = .ok (.lconst 0, 1) := by decide +kernel
theorem dX10_odds_52 : decode t_X10_odds.2.1 52 = .ok (.lcmp, 1) := by decide +kernel
theorem dX10_odds_53 : decode t_X10_odds.2.1 53 = .ok (.ifCond .ne 9, 3) := by decide +kernel
theorem dX10_odds_56 : decode t_X10_odds.2.1 56 = .ok (.aload_n 0, 1) := by decide +kernel
theorem dX10_odds_57 : decode t_X10_odds.2.1 57 = .ok (.iconst 4, 1) := by decide +kernel
theorem dX10_odds_58 : decode t_X10_odds.2.1 58 = .ok (.invokevirtual 111, 3) := by decide +kernel
theorem iX10_odds_58 : wm_iv t_X10_odds t_X10_meets 58 := ⟨111, wd_1270, dX10_odds_58⟩
theorem dX10_odds_61 : decode t_X10_odds.2.1 61 = .ok (.ireturn, 1) := by decide +kernel
theorem dX10_odds_62 : decode t_X10_odds.2.1 62 = .ok (.aload_n 0, 1) := by decide +kernel
theorem dX10_odds_63 : decode t_X10_odds.2.1 63 = .ok (.iconst 1, 1) := by decide +kernel
theorem dX10_odds_64 : decode t_X10_odds.2.1 64 = .ok (.invokevirtual 256, 3) := by decide +kernel
theorem iX10_odds_64 : wm_iv t_X10_odds t_X10_layStands 64 := ⟨256, wd_1496, dX10_odds_64⟩
theorem dX10_odds_67 : decode t_X10_odds.2.1 67 = .ok (.lconst 0, 1) := by decide +kernel
theorem dX10_odds_68 : decode t_X10_odds.2.1 68 = .ok (.lstore 4, 2) := by decide +kernel
theorem dX10_odds_70 : decode t_X10_odds.2.1 70 = .ok (.iconst 0, 1) := by decide +kernel
theorem dX10_odds_71 : decode t_X10_odds.2.1 71 = .ok (.istore 6, 2) := by decide +kernel
theorem dX10_odds_73 : decode t_X10_odds.2.1 73 = .ok (.iload 6, 2) := by decide +kernel
theorem dX10_odds_75 : decode t_X10_odds.2.1 75 = .ok (.aload_n 0, 1) := by decide +kernel
theorem dX10_odds_76 : decode t_X10_odds.2.1 76 = .ok (.invokevirtual 244, 3) := by decide +kernel
theorem iX10_odds_76 : wm_iv t_X10_odds t_X10_stateMany 76 := ⟨244, wd_1488, dX10_odds_76⟩
theorem dX10_odds_79 : decode t_X10_odds.2.1 79 = .ok (.if_icmp .ge 55, 3) := by decide +kernel
theorem dX10_odds_82 : decode t_X10_odds.2.1 82 = .ok (.lload 4, 2) := by decide +kernel
theorem dX10_odds_84 : decode t_X10_odds.2.1 84 = .ok (.aload_n 0, 1) := by decide +kernel
theorem dX10_odds_85 : decode t_X10_odds.2.1 85 = .ok (.getfield 65, 3) := by decide +kernel
theorem gX10_odds_85 : wm_gf t_X10_odds 85 10 31 := ⟨_, _, _, 65, rfl, by decide, wd_1145, dX10_odds_85⟩
theorem dX10_odds_88 : decode t_X10_odds.2.1 88 = .ok (.iload 6, 2) := by decide +kernel
theorem dX10_odds_90 : decode t_X10_odds.2.1 90 = .ok (.iaload, 1) := by decide +kernel
theorem dX10_odds_91 : decode t_X10_odds.2.1 91 = .ok (.iload_n 3, 1) := by decide +kernel
theorem dX10_odds_92 : decode t_X10_odds.2.1 92 = .ok (.invokestatic 179, 3) := by decide +kernel
theorem iX10_odds_92 : wm_is t_X10_odds t_X10_has 92 := ⟨179, wd_1364, dX10_odds_92⟩
theorem dX10_odds_95 : decode t_X10_odds.2.1 95 = .ok (.ifCond .eq 29, 3) := by decide +kernel
theorem dX10_odds_98 : decode t_X10_odds.2.1 98 = .ok (.aload_n 0, 1) := by decide +kernel
theorem dX10_odds_99 : decode t_X10_odds.2.1 99 = .ok (.getfield 82, 3) := by decide +kernel
theorem gX10_odds_99 : wm_gf t_X10_odds 99 10 38 := ⟨_, _, _, 82, rfl, by decide, wd_1152, dX10_odds_99⟩
theorem dX10_odds_102 : decode t_X10_odds.2.1 102 = .ok (.iload_n 2, 1) := by decide +kernel
theorem dX10_odds_103 : decode t_X10_odds.2.1 103 = .ok (.iload 6, 2) := by decide +kernel
theorem dX10_odds_105 : decode t_X10_odds.2.1 105 = .ok (.invokestatic 283, 3) := by decide +kernel
theorem iX10_odds_105 : wm_is t_X10_odds t_X10_spot 105 := ⟨283, wd_1563, dX10_odds_105⟩
theorem dX10_odds_108 : decode t_X10_odds.2.1 108 = .ok (.laload, 1) := by decide +kernel
theorem dX10_odds_109 : decode t_X10_odds.2.1 109 = .ok (.aload_n 0, 1) := by decide +kernel
theorem dX10_odds_110 : decode t_X10_odds.2.1 110 = .ok (.getfield 86, 3) := by decide +kernel
theorem gX10_odds_110 : wm_gf t_X10_odds 110 10 39 := ⟨_, _, _, 86, rfl, by decide, wd_1153, dX10_odds_110⟩
theorem dX10_odds_113 : decode t_X10_odds.2.1 113 = .ok (.iload_n 2, 1) := by decide +kernel
theorem dX10_odds_114 : decode t_X10_odds.2.1 114 = .ok (.iload 6, 2) := by decide +kernel
theorem dX10_odds_116 : decode t_X10_odds.2.1 116 = .ok (.invokestatic 283, 3) := by decide +kernel
theorem iX10_odds_116 : wm_is t_X10_odds t_X10_spot 116 := ⟨283, wd_1563, dX10_odds_116⟩
theorem dX10_odds_119 : decode t_X10_odds.2.1 119 = .ok (.laload, 1) := by decide +kernel
theorem dX10_odds_120 : decode t_X10_odds.2.1 120 = .ok (.lmul, 1) := by decide +kernel
theorem dX10_odds_121 : decode t_X10_odds.2.1 121 = .ok (.goto 4, 3) := by decide +kernel
theorem dX10_odds_124 : decode t_X10_odds.2.1 124 = .ok (.lconst 0, 1) := by decide +kernel
theorem dX10_odds_125 : decode t_X10_odds.2.1 125 = .ok (.ladd, 1) := by decide +kernel
theorem dX10_odds_126 : decode t_X10_odds.2.1 126 = .ok (.lstore 4, 2) := by decide +kernel
theorem dX10_odds_128 : decode t_X10_odds.2.1 128 = .ok (.iinc 6 1, 3) := by decide +kernel
theorem dX10_odds_131 : decode t_X10_odds.2.1 131 = .ok (.goto (-58), 3) := by decide +kernel
theorem dX10_odds_134 : decode t_X10_odds.2.1 134 = .ok (.aload_n 0, 1) := by decide +kernel
theorem dX10_odds_135 : decode t_X10_odds.2.1 135 = .ok (.lload 4, 2) := by decide +kernel
theorem dX10_odds_137 : decode t_X10_odds.2.1 137 = .ok (.aload_n 0, 1) := by decide +kernel
theorem dX10_odds_138 : decode t_X10_odds.2.1 138 = .ok (.getfield 86, 3) := by decide +kernel
theorem gX10_odds_138 : wm_gf t_X10_odds 138 10 39 := ⟨_, _, _, 86, rfl, by decide, wd_1153, dX10_odds_138⟩
theorem dX10_odds_141 : decode t_X10_odds.2.1 141 = .ok (.iconst 0, 1) := by decide +kernel
theorem dX10_odds_142 : decode t_X10_odds.2.1 142 = .ok (.laload, 1) := by decide +kernel
theorem dX10_odds_143 : decode t_X10_odds.2.1 143 = .ok (.iconst 1, 1) := by decide +kernel
theorem dX10_odds_144 : decode t_X10_odds.2.1 144 = .ok (.invokevirtual 272, 3) := by decide +kernel
theorem iX10_odds_144 : wm_iv t_X10_odds t_X10_fraction 144 := ⟨272, wd_1520, dX10_odds_144⟩
theorem dX10_odds_147 : decode t_X10_odds.2.1 147 = .ok (.ireturn, 1) := by decide +kernel
theorem wd_1585 : Cond.code yX10_lives cX10_lives 10 (some .int) ∈ lw_gd := List.mem_filter.mpr ⟨List.mem_of_getElem? (i := 1585) (by decide +kernel), by decide +kernel⟩
theorem wd_1583 : Cond.instanceMethod yX10_lives ∈ lw_gd := List.mem_filter.mpr ⟨List.mem_of_getElem? (i := 1583) (by decide +kernel), by decide +kernel⟩
theorem wd_1584 : Cond.selects RX10 yX10_lives yX10_lives ∈ lw_gd := List.mem_filter.mpr ⟨List.mem_of_getElem? (i := 1584) (by decide +kernel), by decide +kernel⟩
theorem vX10_lives : wm_calV t_X10_lives 2 := ⟨⟨wd_1585, wd_88, by decide +kernel, by decide +kernel, by decide +kernel⟩, wd_1583, wd_1584⟩
theorem dX10_lives_0 : decode t_X10_lives.2.1 0 = .ok (.iload_n 1, 1) := by decide +kernel
theorem dX10_lives_1 : decode t_X10_lives.2.1 1 = .ok (.invokestatic 260, 3) := by decide +kernel
theorem iX10_lives_1 : wm_is t_X10_lives t_X10_isSet 1 := ⟨260, wd_1477, dX10_lives_1⟩
theorem dX10_lives_4 : decode t_X10_lives.2.1 4 = .ok (.ifCond .eq 13, 3) := by decide +kernel
theorem dX10_lives_7 : decode t_X10_lives.2.1 7 = .ok (.iload_n 2, 1) := by decide +kernel
theorem dX10_lives_8 : decode t_X10_lives.2.1 8 = .ok (.iconst 1, 1) := by decide +kernel
theorem dX10_lives_9 : decode t_X10_lives.2.1 9 = .ok (.bipush 12, 2) := by decide +kernel
theorem dX10_lives_11 : decode t_X10_lives.2.1 11 = .ok (.invokestatic 97, 3) := by decide +kernel
theorem iX10_lives_11 : wm_is t_X10_lives t_X10_in 11 := ⟨97, wd_1248, dX10_lives_11⟩
theorem dX10_lives_14 : decode t_X10_lives.2.1 14 = .ok (.ifCond .ne 5, 3) := by decide +kernel
theorem dX10_lives_17 : decode t_X10_lives.2.1 17 = .ok (.iconst (-1), 1) := by decide +kernel
theorem dX10_lives_18 : decode t_X10_lives.2.1 18 = .ok (.ireturn, 1) := by decide +kernel
theorem dX10_lives_19 : decode t_X10_lives.2.1 19 = .ok (.aload_n 0, 1) := by decide +kernel
theorem dX10_lives_20 : decode t_X10_lives.2.1 20 = .ok (.iload_n 1, 1) := by decide +kernel
theorem dX10_lives_21 : decode t_X10_lives.2.1 21 = .ok (.invokevirtual 263, 3) := by decide +kernel
theorem iX10_lives_21 : wm_iv t_X10_lives t_X10_nearest 21 := ⟨263, wd_1480, dX10_lives_21⟩
theorem dX10_lives_24 : decode t_X10_lives.2.1 24 = .ok (.istore_n 3, 1) := by decide +kernel
theorem dX10_lives_25 : decode t_X10_lives.2.1 25 = .ok (.iload_n 3, 1) := by decide +kernel
theorem dX10_lives_26 : decode t_X10_lives.2.1 26 = .ok (.bipush (-9), 2) := by decide +kernel
theorem dX10_lives_28 : decode t_X10_lives.2.1 28 = .ok (.if_icmp .ne 6, 3) := by decide +kernel
theorem dX10_lives_31 : decode t_X10_lives.2.1 31 = .ok (.bipush (-9), 2) := by decide +kernel
theorem dX10_lives_33 : decode t_X10_lives.2.1 33 = .ok (.ireturn, 1) := by decide +kernel
theorem dX10_lives_34 : decode t_X10_lives.2.1 34 = .ok (.aload_n 0, 1) := by decide +kernel
theorem dX10_lives_35 : decode t_X10_lives.2.1 35 = .ok (.getfield 62, 3) := by decide +kernel
theorem gX10_lives_35 : wm_gf t_X10_lives 35 10 30 := ⟨_, _, _, 62, rfl, by decide, wd_1144, dX10_lives_35⟩
theorem dX10_lives_38 : decode t_X10_lives.2.1 38 = .ok (.iload_n 3, 1) := by decide +kernel
theorem dX10_lives_39 : decode t_X10_lives.2.1 39 = .ok (.iaload, 1) := by decide +kernel
theorem dX10_lives_40 : decode t_X10_lives.2.1 40 = .ok (.istore 4, 2) := by decide +kernel
theorem dX10_lives_42 : decode t_X10_lives.2.1 42 = .ok (.iload 4, 2) := by decide +kernel
theorem dX10_lives_44 : decode t_X10_lives.2.1 44 = .ok (.bipush 17, 2) := by decide +kernel
theorem dX10_lives_46 : decode t_X10_lives.2.1 46 = .ok (.if_icmp .le 6, 3) := by decide +kernel
theorem dX10_lives_49 : decode t_X10_lives.2.1 49 = .ok (.bipush (-6), 2) := by decide +kernel
theorem dX10_lives_51 : decode t_X10_lives.2.1 51 = .ok (.ireturn, 1) := by decide +kernel
theorem dX10_lives_52 : decode t_X10_lives.2.1 52 = .ok (.lconst 1, 1) := by decide +kernel
theorem dX10_lives_53 : decode t_X10_lives.2.1 53 = .ok (.lstore 5, 2) := by decide +kernel
theorem dX10_lives_55 : decode t_X10_lives.2.1 55 = .ok (.lconst 1, 1) := by decide +kernel
theorem dX10_lives_56 : decode t_X10_lives.2.1 56 = .ok (.lstore 7, 2) := by decide +kernel
theorem dX10_lives_58 : decode t_X10_lives.2.1 58 = .ok (.iconst 0, 1) := by decide +kernel
theorem dX10_lives_59 : decode t_X10_lives.2.1 59 = .ok (.istore 9, 2) := by decide +kernel
theorem dX10_lives_61 : decode t_X10_lives.2.1 61 = .ok (.iload 9, 2) := by decide +kernel
theorem dX10_lives_63 : decode t_X10_lives.2.1 63 = .ok (.iload 4, 2) := by decide +kernel
theorem dX10_lives_65 : decode t_X10_lives.2.1 65 = .ok (.if_icmp .ge 24, 3) := by decide +kernel
theorem dX10_lives_68 : decode t_X10_lives.2.1 68 = .ok (.lload 5, 2) := by decide +kernel
theorem dX10_lives_70 : decode t_X10_lives.2.1 70 = .ok (.iload_n 2, 1) := by decide +kernel
theorem dX10_lives_71 : decode t_X10_lives.2.1 71 = .ok (.i2l, 1) := by decide +kernel
theorem dX10_lives_72 : decode t_X10_lives.2.1 72 = .ok (.lmul, 1) := by decide +kernel
theorem dX10_lives_73 : decode t_X10_lives.2.1 73 = .ok (.lstore 5, 2) := by decide +kernel
theorem dX10_lives_75 : decode t_X10_lives.2.1 75 = .ok (.lload 7, 2) := by decide +kernel
theorem dX10_lives_77 : decode t_X10_lives.2.1 77 = .ok (.ldc2_w 295, 3) := by decide +kernel
theorem wd_1586 : Cond.constantLong RX10 295 (12) ∈ lw_gd := List.mem_filter.mpr ⟨List.mem_of_getElem? (i := 1586) (by decide +kernel), by decide +kernel⟩
theorem kX10_lives_77 : Cond.constantLong t_X10_lives.1.cls 295 (12) ∈ lw_gd := wd_1586
theorem dX10_lives_80 : decode t_X10_lives.2.1 80 = .ok (.lmul, 1) := by decide +kernel
theorem dX10_lives_81 : decode t_X10_lives.2.1 81 = .ok (.lstore 7, 2) := by decide +kernel
theorem dX10_lives_83 : decode t_X10_lives.2.1 83 = .ok (.iinc 9 1, 3) := by decide +kernel
theorem dX10_lives_86 : decode t_X10_lives.2.1 86 = .ok (.goto (-25), 3) := by decide +kernel
theorem dX10_lives_89 : decode t_X10_lives.2.1 89 = .ok (.aload_n 0, 1) := by decide +kernel
theorem dX10_lives_90 : decode t_X10_lives.2.1 90 = .ok (.lload 5, 2) := by decide +kernel
theorem dX10_lives_92 : decode t_X10_lives.2.1 92 = .ok (.lload 7, 2) := by decide +kernel
theorem dX10_lives_94 : decode t_X10_lives.2.1 94 = .ok (.iload 4, 2) := by decide +kernel
theorem dX10_lives_96 : decode t_X10_lives.2.1 96 = .ok (.invokevirtual 272, 3) := by decide +kernel
theorem iX10_lives_96 : wm_iv t_X10_lives t_X10_fraction 96 := ⟨272, wd_1520, dX10_lives_96⟩
theorem dX10_lives_99 : decode t_X10_lives.2.1 99 = .ok (.ireturn, 1) := by decide +kernel
theorem wd_1594 : Cond.code yX10_counted cX10_counted 4 (some .int) ∈ lw_gd := List.mem_filter.mpr ⟨List.mem_of_getElem? (i := 1594) (by decide +kernel), by decide +kernel⟩
theorem wd_1593 : Cond.instanceMethod yX10_counted ∈ lw_gd := List.mem_filter.mpr ⟨List.mem_of_getElem? (i := 1593) (by decide +kernel), by decide +kernel⟩
theorem wd_73 : Cond.selects RX10 yX10_counted yX10_counted ∈ lw_gd := List.mem_filter.mpr ⟨List.mem_of_getElem? (i := 73) (by decide +kernel), by decide +kernel⟩
theorem vX10_counted : wm_calV t_X10_counted 1 := ⟨⟨wd_1594, wd_88, by decide +kernel, by decide +kernel, by decide +kernel⟩, wd_1593, wd_73⟩
theorem dX10_counted_0 : decode t_X10_counted.2.1 0 = .ok (.iconst 0, 1) := by decide +kernel
theorem dX10_counted_1 : decode t_X10_counted.2.1 1 = .ok (.istore_n 2, 1) := by decide +kernel
theorem dX10_counted_2 : decode t_X10_counted.2.1 2 = .ok (.iconst 0, 1) := by decide +kernel
theorem dX10_counted_3 : decode t_X10_counted.2.1 3 = .ok (.istore_n 3, 1) := by decide +kernel
theorem dX10_counted_4 : decode t_X10_counted.2.1 4 = .ok (.iload_n 3, 1) := by decide +kernel
theorem dX10_counted_5 : decode t_X10_counted.2.1 5 = .ok (.aload_n 0, 1) := by decide +kernel
theorem dX10_counted_6 : decode t_X10_counted.2.1 6 = .ok (.getfield 164, 3) := by decide +kernel
theorem gX10_counted_6 : wm_gf t_X10_counted 6 10 12 := ⟨_, _, _, 164, rfl, by decide, wd_1126, dX10_counted_6⟩
theorem dX10_counted_9 : decode t_X10_counted.2.1 9 = .ok (.if_icmp .ge 55, 3) := by decide +kernel
theorem dX10_counted_12 : decode t_X10_counted.2.1 12 = .ok (.iload_n 2, 1) := by decide +kernel
theorem dX10_counted_13 : decode t_X10_counted.2.1 13 = .ok (.iload_n 1, 1) := by decide +kernel
theorem dX10_counted_14 : decode t_X10_counted.2.1 14 = .ok (.iconst 3, 1) := by decide +kernel
theorem dX10_counted_15 : decode t_X10_counted.2.1 15 = .ok (.if_icmp .ne 23, 3) := by decide +kernel
theorem dX10_counted_18 : decode t_X10_counted.2.1 18 = .ok (.aload_n 0, 1) := by decide +kernel
theorem dX10_counted_19 : decode t_X10_counted.2.1 19 = .ok (.getfield 29, 3) := by decide +kernel
theorem gX10_counted_19 : wm_gf t_X10_counted 19 10 13 := ⟨_, _, _, 29, rfl, by decide, wd_1127, dX10_counted_19⟩
theorem dX10_counted_22 : decode t_X10_counted.2.1 22 = .ok (.iload_n 3, 1) := by decide +kernel
theorem dX10_counted_23 : decode t_X10_counted.2.1 23 = .ok (.iaload, 1) := by decide +kernel
theorem dX10_counted_24 : decode t_X10_counted.2.1 24 = .ok (.iconst 1, 1) := by decide +kernel
theorem dX10_counted_25 : decode t_X10_counted.2.1 25 = .ok (.if_icmp .eq 26, 3) := by decide +kernel
theorem dX10_counted_28 : decode t_X10_counted.2.1 28 = .ok (.aload_n 0, 1) := by decide +kernel
theorem dX10_counted_29 : decode t_X10_counted.2.1 29 = .ok (.getfield 29, 3) := by decide +kernel
theorem gX10_counted_29 : wm_gf t_X10_counted 29 10 13 := ⟨_, _, _, 29, rfl, by decide, wd_1127, dX10_counted_29⟩
theorem dX10_counted_32 : decode t_X10_counted.2.1 32 = .ok (.iload_n 3, 1) := by decide +kernel
theorem dX10_counted_33 : decode t_X10_counted.2.1 33 = .ok (.iaload, 1) := by decide +kernel
theorem dX10_counted_34 : decode t_X10_counted.2.1 34 = .ok (.iconst 4, 1) := by decide +kernel
theorem dX10_counted_35 : decode t_X10_counted.2.1 35 = .ok (.if_icmp .eq 16, 3) := by decide +kernel
theorem dX10_counted_38 : decode t_X10_counted.2.1 38 = .ok (.iload_n 1, 1) := by decide +kernel
theorem dX10_counted_39 : decode t_X10_counted.2.1 39 = .ok (.iconst 4, 1) := by decide +kernel
theorem dX10_counted_40 : decode t_X10_counted.2.1 40 = .ok (.if_icmp .ne 15, 3) := by decide +kernel
theorem dX10_counted_43 : decode t_X10_counted.2.1 43 = .ok (.aload_n 0, 1) := by decide +kernel
theorem dX10_counted_44 : decode t_X10_counted.2.1 44 = .ok (.iload_n 3, 1) := by decide +kernel
theorem dX10_counted_45 : decode t_X10_counted.2.1 45 = .ok (.invokevirtual 234, 3) := by decide +kernel
theorem iX10_counted_45 : wm_iv t_X10_counted t_X10_isFixed 45 := ⟨234, wd_1441, dX10_counted_45⟩
theorem dX10_counted_48 : decode t_X10_counted.2.1 48 = .ok (.ifCond .eq 7, 3) := by decide +kernel
theorem dX10_counted_51 : decode t_X10_counted.2.1 51 = .ok (.iconst 1, 1) := by decide +kernel
theorem dX10_counted_52 : decode t_X10_counted.2.1 52 = .ok (.goto 4, 3) := by decide +kernel
theorem dX10_counted_55 : decode t_X10_counted.2.1 55 = .ok (.iconst 0, 1) := by decide +kernel
theorem dX10_counted_56 : decode t_X10_counted.2.1 56 = .ok (.iadd, 1) := by decide +kernel
theorem dX10_counted_57 : decode t_X10_counted.2.1 57 = .ok (.istore_n 2, 1) := by decide +kernel
theorem dX10_counted_58 : decode t_X10_counted.2.1 58 = .ok (.iinc 3 1, 3) := by decide +kernel
theorem dX10_counted_61 : decode t_X10_counted.2.1 61 = .ok (.goto (-57), 3) := by decide +kernel
theorem dX10_counted_64 : decode t_X10_counted.2.1 64 = .ok (.iconst 0, 1) := by decide +kernel
theorem dX10_counted_65 : decode t_X10_counted.2.1 65 = .ok (.istore_n 3, 1) := by decide +kernel
theorem dX10_counted_66 : decode t_X10_counted.2.1 66 = .ok (.iload_n 3, 1) := by decide +kernel
theorem dX10_counted_67 : decode t_X10_counted.2.1 67 = .ok (.iconst 4, 1) := by decide +kernel
theorem dX10_counted_68 : decode t_X10_counted.2.1 68 = .ok (.if_icmp .ge 46, 3) := by decide +kernel
theorem dX10_counted_71 : decode t_X10_counted.2.1 71 = .ok (.iload_n 2, 1) := by decide +kernel
theorem dX10_counted_72 : decode t_X10_counted.2.1 72 = .ok (.iload_n 1, 1) := by decide +kernel
theorem dX10_counted_73 : decode t_X10_counted.2.1 73 = .ok (.iconst 2, 1) := by decide +kernel
theorem dX10_counted_74 : decode t_X10_counted.2.1 74 = .ok (.if_icmp .ne 12, 3) := by decide +kernel
theorem dX10_counted_77 : decode t_X10_counted.2.1 77 = .ok (.aload_n 0, 1) := by decide +kernel
theorem dX10_counted_78 : decode t_X10_counted.2.1 78 = .ok (.getfield 47, 3) := by decide +kernel
theorem gX10_counted_78 : wm_gf t_X10_counted 78 10 25 := ⟨_, _, _, 47, rfl, by decide, wd_1139, dX10_counted_78⟩
theorem dX10_counted_81 : decode t_X10_counted.2.1 81 = .ok (.iload_n 3, 1) := by decide +kernel
theorem dX10_counted_82 : decode t_X10_counted.2.1 82 = .ok (.iaload, 1) := by decide +kernel
theorem dX10_counted_83 : decode t_X10_counted.2.1 83 = .ok (.ifCond .ge 18, 3) := by decide +kernel
theorem dX10_counted_86 : decode t_X10_counted.2.1 86 = .ok (.iload_n 1, 1) := by decide +kernel
theorem dX10_counted_87 : decode t_X10_counted.2.1 87 = .ok (.bipush 7, 2) := by decide +kernel
theorem dX10_counted_89 : decode t_X10_counted.2.1 89 = .ok (.if_icmp .ne 16, 3) := by decide +kernel
theorem dX10_counted_92 : decode t_X10_counted.2.1 92 = .ok (.aload_n 0, 1) := by decide +kernel
theorem dX10_counted_93 : decode t_X10_counted.2.1 93 = .ok (.getfield 22, 3) := by decide +kernel
theorem gX10_counted_93 : wm_gf t_X10_counted 93 10 8 := ⟨_, _, _, 22, rfl, by decide, wd_1122, dX10_counted_93⟩
theorem dX10_counted_96 : decode t_X10_counted.2.1 96 = .ok (.iload_n 3, 1) := by decide +kernel
theorem dX10_counted_97 : decode t_X10_counted.2.1 97 = .ok (.iaload, 1) := by decide +kernel
theorem dX10_counted_98 : decode t_X10_counted.2.1 98 = .ok (.ifCond .lt 7, 3) := by decide +kernel
theorem dX10_counted_101 : decode t_X10_counted.2.1 101 = .ok (.iconst 1, 1) := by decide +kernel
theorem dX10_counted_102 : decode t_X10_counted.2.1 102 = .ok (.goto 4, 3) := by decide +kernel
theorem dX10_counted_105 : decode t_X10_counted.2.1 105 = .ok (.iconst 0, 1) := by decide +kernel
theorem dX10_counted_106 : decode t_X10_counted.2.1 106 = .ok (.iadd, 1) := by decide +kernel
theorem dX10_counted_107 : decode t_X10_counted.2.1 107 = .ok (.istore_n 2, 1) := by decide +kernel
theorem dX10_counted_108 : decode t_X10_counted.2.1 108 = .ok (.iinc 3 1, 3) := by decide +kernel
theorem dX10_counted_111 : decode t_X10_counted.2.1 111 = .ok (.goto (-45), 3) := by decide +kernel
theorem dX10_counted_114 : decode t_X10_counted.2.1 114 = .ok (.iconst 0, 1) := by decide +kernel
theorem dX10_counted_115 : decode t_X10_counted.2.1 115 = .ok (.istore_n 3, 1) := by decide +kernel
theorem dX10_counted_116 : decode t_X10_counted.2.1 116 = .ok (.iload_n 3, 1) := by decide +kernel
theorem dX10_counted_117 : decode t_X10_counted.2.1 117 = .ok (.bipush 6, 2) := by decide +kernel
theorem dX10_counted_119 : decode t_X10_counted.2.1 119 = .ok (.if_icmp .ge 32, 3) := by decide +kernel
theorem dX10_counted_122 : decode t_X10_counted.2.1 122 = .ok (.iload_n 2, 1) := by decide +kernel
theorem dX10_counted_123 : decode t_X10_counted.2.1 123 = .ok (.iload_n 1, 1) := by decide +kernel
theorem dX10_counted_124 : decode t_X10_counted.2.1 124 = .ok (.bipush 6, 2) := by decide +kernel
theorem dX10_counted_126 : decode t_X10_counted.2.1 126 = .ok (.if_icmp .ne 16, 3) := by decide +kernel
theorem dX10_counted_129 : decode t_X10_counted.2.1 129 = .ok (.aload_n 0, 1) := by decide +kernel
theorem dX10_counted_130 : decode t_X10_counted.2.1 130 = .ok (.getfield 13, 3) := by decide +kernel
theorem gX10_counted_130 : wm_gf t_X10_counted 130 10 5 := ⟨_, _, _, 13, rfl, by decide, wd_1119, dX10_counted_130⟩
theorem dX10_counted_133 : decode t_X10_counted.2.1 133 = .ok (.iload_n 3, 1) := by decide +kernel
theorem dX10_counted_134 : decode t_X10_counted.2.1 134 = .ok (.iaload, 1) := by decide +kernel
theorem dX10_counted_135 : decode t_X10_counted.2.1 135 = .ok (.ifCond .lt 7, 3) := by decide +kernel
theorem dX10_counted_138 : decode t_X10_counted.2.1 138 = .ok (.iconst 1, 1) := by decide +kernel
theorem dX10_counted_139 : decode t_X10_counted.2.1 139 = .ok (.goto 4, 3) := by decide +kernel
theorem dX10_counted_142 : decode t_X10_counted.2.1 142 = .ok (.iconst 0, 1) := by decide +kernel
theorem dX10_counted_143 : decode t_X10_counted.2.1 143 = .ok (.iadd, 1) := by decide +kernel
theorem dX10_counted_144 : decode t_X10_counted.2.1 144 = .ok (.istore_n 2, 1) := by decide +kernel
theorem dX10_counted_145 : decode t_X10_counted.2.1 145 = .ok (.iinc 3 1, 3) := by decide +kernel
theorem dX10_counted_148 : decode t_X10_counted.2.1 148 = .ok (.goto (-32), 3) := by decide +kernel
theorem dX10_counted_151 : decode t_X10_counted.2.1 151 = .ok (.iload_n 1, 1) := by decide +kernel
theorem dX10_counted_152 : decode t_X10_counted.2.1 152 = .ok (.ifCond .ne 10, 3) := by decide +kernel
theorem dX10_counted_155 : decode t_X10_counted.2.1 155 = .ok (.aload_n 0, 1) := by decide +kernel
theorem dX10_counted_156 : decode t_X10_counted.2.1 156 = .ok (.getfield 164, 3) := by decide +kernel
theorem gX10_counted_156 : wm_gf t_X10_counted 156 10 12 := ⟨_, _, _, 164, rfl, by decide, wd_1126, dX10_counted_156⟩
theorem dX10_counted_159 : decode t_X10_counted.2.1 159 = .ok (.goto 28, 3) := by decide +kernel
theorem dX10_counted_162 : decode t_X10_counted.2.1 162 = .ok (.iload_n 1, 1) := by decide +kernel
theorem dX10_counted_163 : decode t_X10_counted.2.1 163 = .ok (.iconst 1, 1) := by decide +kernel
theorem dX10_counted_164 : decode t_X10_counted.2.1 164 = .ok (.if_icmp .ne 10, 3) := by decide +kernel
theorem dX10_counted_167 : decode t_X10_counted.2.1 167 = .ok (.aload_n 0, 1) := by decide +kernel
theorem dX10_counted_168 : decode t_X10_counted.2.1 168 = .ok (.invokevirtual 192, 3) := by decide +kernel
theorem iX10_counted_168 : wm_iv t_X10_counted t_X10_streetMany 168 := ⟨192, wd_1385, dX10_counted_168⟩
theorem dX10_counted_171 : decode t_X10_counted.2.1 171 = .ok (.goto 16, 3) := by decide +kernel
theorem dX10_counted_174 : decode t_X10_counted.2.1 174 = .ok (.iload_n 1, 1) := by decide +kernel
theorem dX10_counted_175 : decode t_X10_counted.2.1 175 = .ok (.iconst 5, 1) := by decide +kernel
theorem dX10_counted_176 : decode t_X10_counted.2.1 176 = .ok (.if_icmp .ne 10, 3) := by decide +kernel
theorem dX10_counted_179 : decode t_X10_counted.2.1 179 = .ok (.aload_n 0, 1) := by decide +kernel
theorem dX10_counted_180 : decode t_X10_counted.2.1 180 = .ok (.getfield 170, 3) := by decide +kernel
theorem gX10_counted_180 : wm_gf t_X10_counted 180 10 36 := ⟨_, _, _, 170, rfl, by decide, wd_1150, dX10_counted_180⟩
theorem dX10_counted_183 : decode t_X10_counted.2.1 183 = .ok (.goto 4, 3) := by decide +kernel
theorem dX10_counted_186 : decode t_X10_counted.2.1 186 = .ok (.iload_n 2, 1) := by decide +kernel
theorem dX10_counted_187 : decode t_X10_counted.2.1 187 = .ok (.ireturn, 1) := by decide +kernel
theorem wd_1590 : Cond.code yX10_count cX10_count 2 (some .int) ∈ lw_gd := List.mem_filter.mpr ⟨List.mem_of_getElem? (i := 1590) (by decide +kernel), by decide +kernel⟩
theorem wd_1588 : Cond.instanceMethod yX10_count ∈ lw_gd := List.mem_filter.mpr ⟨List.mem_of_getElem? (i := 1588) (by decide +kernel), by decide +kernel⟩
theorem wd_1589 : Cond.selects RX10 yX10_count yX10_count ∈ lw_gd := List.mem_filter.mpr ⟨List.mem_of_getElem? (i := 1589) (by decide +kernel), by decide +kernel⟩
theorem vX10_count : wm_calV t_X10_count 1 := ⟨⟨wd_1590, wd_88, by decide +kernel, by decide +kernel, by decide +kernel⟩, wd_1588, wd_1589⟩
theorem dX10_count_0 : decode t_X10_count.2.1 0 = .ok (.iload_n 1, 1) := by decide +kernel
theorem dX10_count_1 : decode t_X10_count.2.1 1 = .ok (.iconst 0, 1) := by decide +kernel
theorem dX10_count_2 : decode t_X10_count.2.1 2 = .ok (.bipush 7, 2) := by decide +kernel
theorem dX10_count_4 : decode t_X10_count.2.1 4 = .ok (.invokestatic 97, 3) := by decide +kernel
theorem iX10_count_4 : wm_is t_X10_count t_X10_in 4 := ⟨97, wd_1248, dX10_count_4⟩
theorem dX10_count_7 : decode t_X10_count.2.1 7 = .ok (.ifCond .eq 11, 3) := by decide +kernel
theorem dX10_count_10 : decode t_X10_count.2.1 10 = .ok (.aload_n 0, 1) := by decide +kernel
theorem dX10_count_11 : decode t_X10_count.2.1 11 = .ok (.iload_n 1, 1) := by decide +kernel
theorem dX10_count_12 : decode t_X10_count.2.1 12 = .ok (.invokevirtual 297, 3) := by decide +kernel
theorem wd_1591 : Cond.methodLink RX10 297 yX10_counted ∈ lw_gd := List.mem_filter.mpr ⟨List.mem_of_getElem? (i := 1591) (by decide +kernel), by decide +kernel⟩
theorem iX10_count_12 : wm_iv t_X10_count t_X10_counted 12 := ⟨297, wd_1591, dX10_count_12⟩
theorem dX10_count_15 : decode t_X10_count.2.1 15 = .ok (.goto 4, 3) := by decide +kernel
theorem dX10_count_18 : decode t_X10_count.2.1 18 = .ok (.iconst (-1), 1) := by decide +kernel
theorem dX10_count_19 : decode t_X10_count.2.1 19 = .ok (.ireturn, 1) := by decide +kernel
theorem wd_1603 : Cond.code yX10_mix cX10_mix 3 (none) ∈ lw_gd := List.mem_filter.mpr ⟨List.mem_of_getElem? (i := 1603) (by decide +kernel), by decide +kernel⟩
theorem wd_1602 : Cond.instanceMethod yX10_mix ∈ lw_gd := List.mem_filter.mpr ⟨List.mem_of_getElem? (i := 1602) (by decide +kernel), by decide +kernel⟩
theorem wd_74 : Cond.selects RX10 yX10_mix yX10_mix ∈ lw_gd := List.mem_filter.mpr ⟨List.mem_of_getElem? (i := 74) (by decide +kernel), by decide +kernel⟩
theorem vX10_mix : wm_calV t_X10_mix 1 := ⟨⟨wd_1603, wd_88, by decide +kernel, by decide +kernel, by decide +kernel⟩, wd_1602, wd_74⟩
theorem dX10_mix_0 : decode t_X10_mix.2.1 0 = .ok (.aload_n 0, 1) := by decide +kernel
theorem dX10_mix_1 : decode t_X10_mix.2.1 1 = .ok (.ldc2_w 300, 3) := by decide +kernel
theorem wd_1604 : Cond.constantLong RX10 300 (31) ∈ lw_gd := List.mem_filter.mpr ⟨List.mem_of_getElem? (i := 1604) (by decide +kernel), by decide +kernel⟩
theorem kX10_mix_1 : Cond.constantLong t_X10_mix.1.cls 300 (31) ∈ lw_gd := wd_1604
theorem dX10_mix_4 : decode t_X10_mix.2.1 4 = .ok (.aload_n 0, 1) := by decide +kernel
theorem dX10_mix_5 : decode t_X10_mix.2.1 5 = .ok (.getfield 302, 3) := by decide +kernel
theorem wd_1154 : Cond.fieldLink RX10 302 "TurnedStonesModel" "hash" "J" ∈ lw_gd := List.mem_filter.mpr ⟨List.mem_of_getElem? (i := 1154) (by decide +kernel), by decide +kernel⟩
theorem gX10_mix_5 : wm_gf t_X10_mix 5 10 40 := ⟨_, _, _, 302, rfl, by decide, wd_1154, dX10_mix_5⟩
theorem dX10_mix_8 : decode t_X10_mix.2.1 8 = .ok (.lmul, 1) := by decide +kernel
theorem dX10_mix_9 : decode t_X10_mix.2.1 9 = .ok (.lload_n 1, 1) := by decide +kernel
theorem dX10_mix_10 : decode t_X10_mix.2.1 10 = .ok (.ladd, 1) := by decide +kernel
theorem dX10_mix_11 : decode t_X10_mix.2.1 11 = .ok (.putfield 302, 3) := by decide +kernel
theorem gX10_mix_11 : wm_pf t_X10_mix 11 10 40 .long := ⟨_, _, _, 302, rfl, by decide, wd_1154, dX10_mix_11, rfl, by decide +kernel⟩
theorem dX10_mix_14 : decode t_X10_mix.2.1 14 = .ok (.return_, 1) := by decide +kernel
theorem wd_1608 : Cond.code yX10_mixTown cX10_mixTown 3 (none) ∈ lw_gd := List.mem_filter.mpr ⟨List.mem_of_getElem? (i := 1608) (by decide +kernel), by decide +kernel⟩
theorem wd_1607 : Cond.instanceMethod yX10_mixTown ∈ lw_gd := List.mem_filter.mpr ⟨List.mem_of_getElem? (i := 1607) (by decide +kernel), by decide +kernel⟩
theorem wd_75 : Cond.selects RX10 yX10_mixTown yX10_mixTown ∈ lw_gd := List.mem_filter.mpr ⟨List.mem_of_getElem? (i := 75) (by decide +kernel), by decide +kernel⟩
theorem vX10_mixTown : wm_calV t_X10_mixTown 0 := ⟨⟨wd_1608, wd_88, by decide +kernel, by decide +kernel, by decide +kernel⟩, wd_1607, wd_75⟩
theorem dX10_mixTown_0 : decode t_X10_mixTown.2.1 0 = .ok (.aload_n 0, 1) := by decide +kernel
theorem dX10_mixTown_1 : decode t_X10_mixTown.2.1 1 = .ok (.aload_n 0, 1) := by decide +kernel
theorem dX10_mixTown_2 : decode t_X10_mixTown.2.1 2 = .ok (.getfield 167, 3) := by decide +kernel
theorem gX10_mixTown_2 : wm_gf t_X10_mixTown 2 10 18 := ⟨_, _, _, 167, rfl, by decide, wd_1132, dX10_mixTown_2⟩
theorem dX10_mixTown_5 : decode t_X10_mixTown.2.1 5 = .ok (.i2l, 1) := by decide +kernel
theorem dX10_mixTown_6 : decode t_X10_mixTown.2.1 6 = .ok (.invokevirtual 305, 3) := by decide +kernel
theorem wd_1600 : Cond.methodLink RX10 305 yX10_mix ∈ lw_gd := List.mem_filter.mpr ⟨List.mem_of_getElem? (i := 1600) (by decide +kernel), by decide +kernel⟩
theorem iX10_mixTown_6 : wm_iv t_X10_mixTown t_X10_mix 6 := ⟨305, wd_1600, dX10_mixTown_6⟩
theorem dX10_mixTown_9 : decode t_X10_mixTown.2.1 9 = .ok (.iconst 0, 1) := by decide +kernel
theorem dX10_mixTown_10 : decode t_X10_mixTown.2.1 10 = .ok (.istore_n 1, 1) := by decide +kernel
theorem dX10_mixTown_11 : decode t_X10_mixTown.2.1 11 = .ok (.iload_n 1, 1) := by decide +kernel
theorem dX10_mixTown_12 : decode t_X10_mixTown.2.1 12 = .ok (.aload_n 0, 1) := by decide +kernel
theorem dX10_mixTown_13 : decode t_X10_mixTown.2.1 13 = .ok (.getfield 164, 3) := by decide +kernel
theorem gX10_mixTown_13 : wm_gf t_X10_mixTown 13 10 12 := ⟨_, _, _, 164, rfl, by decide, wd_1126, dX10_mixTown_13⟩
theorem dX10_mixTown_16 : decode t_X10_mixTown.2.1 16 = .ok (.if_icmp .ge 34, 3) := by decide +kernel
theorem dX10_mixTown_19 : decode t_X10_mixTown.2.1 19 = .ok (.iconst 0, 1) := by decide +kernel
theorem dX10_mixTown_20 : decode t_X10_mixTown.2.1 20 = .ok (.istore_n 2, 1) := by decide +kernel
theorem dX10_mixTown_21 : decode t_X10_mixTown.2.1 21 = .ok (.iload_n 2, 1) := by decide +kernel
theorem dX10_mixTown_22 : decode t_X10_mixTown.2.1 22 = .ok (.bipush 6, 2) := by decide +kernel
theorem dX10_mixTown_24 : decode t_X10_mixTown.2.1 24 = .ok (.if_icmp .ge 20, 3) := by decide +kernel
theorem dX10_mixTown_27 : decode t_X10_mixTown.2.1 27 = .ok (.aload_n 0, 1) := by decide +kernel
theorem dX10_mixTown_28 : decode t_X10_mixTown.2.1 28 = .ok (.aload_n 0, 1) := by decide +kernel
theorem dX10_mixTown_29 : decode t_X10_mixTown.2.1 29 = .ok (.iload_n 1, 1) := by decide +kernel
theorem dX10_mixTown_30 : decode t_X10_mixTown.2.1 30 = .ok (.iload_n 2, 1) := by decide +kernel
theorem dX10_mixTown_31 : decode t_X10_mixTown.2.1 31 = .ok (.invokevirtual 176, 3) := by decide +kernel
theorem iX10_mixTown_31 : wm_iv t_X10_mixTown t_X10_stoneTells 31 := ⟨176, wd_1352, dX10_mixTown_31⟩
theorem dX10_mixTown_34 : decode t_X10_mixTown.2.1 34 = .ok (.i2l, 1) := by decide +kernel
theorem dX10_mixTown_35 : decode t_X10_mixTown.2.1 35 = .ok (.invokevirtual 305, 3) := by decide +kernel
theorem iX10_mixTown_35 : wm_iv t_X10_mixTown t_X10_mix 35 := ⟨305, wd_1600, dX10_mixTown_35⟩
theorem dX10_mixTown_38 : decode t_X10_mixTown.2.1 38 = .ok (.iinc 2 1, 3) := by decide +kernel
theorem dX10_mixTown_41 : decode t_X10_mixTown.2.1 41 = .ok (.goto (-20), 3) := by decide +kernel
theorem dX10_mixTown_44 : decode t_X10_mixTown.2.1 44 = .ok (.iinc 1 1, 3) := by decide +kernel
theorem dX10_mixTown_47 : decode t_X10_mixTown.2.1 47 = .ok (.goto (-36), 3) := by decide +kernel
theorem dX10_mixTown_50 : decode t_X10_mixTown.2.1 50 = .ok (.iconst 0, 1) := by decide +kernel
theorem dX10_mixTown_51 : decode t_X10_mixTown.2.1 51 = .ok (.istore_n 1, 1) := by decide +kernel
theorem dX10_mixTown_52 : decode t_X10_mixTown.2.1 52 = .ok (.iload_n 1, 1) := by decide +kernel
theorem dX10_mixTown_53 : decode t_X10_mixTown.2.1 53 = .ok (.iconst 4, 1) := by decide +kernel
theorem dX10_mixTown_54 : decode t_X10_mixTown.2.1 54 = .ok (.if_icmp .ge 53, 3) := by decide +kernel
theorem dX10_mixTown_57 : decode t_X10_mixTown.2.1 57 = .ok (.aload_n 0, 1) := by decide +kernel
theorem dX10_mixTown_58 : decode t_X10_mixTown.2.1 58 = .ok (.aload_n 0, 1) := by decide +kernel
theorem dX10_mixTown_59 : decode t_X10_mixTown.2.1 59 = .ok (.getfield 47, 3) := by decide +kernel
theorem gX10_mixTown_59 : wm_gf t_X10_mixTown 59 10 25 := ⟨_, _, _, 47, rfl, by decide, wd_1139, dX10_mixTown_59⟩
theorem dX10_mixTown_62 : decode t_X10_mixTown.2.1 62 = .ok (.iload_n 1, 1) := by decide +kernel
theorem dX10_mixTown_63 : decode t_X10_mixTown.2.1 63 = .ok (.iaload, 1) := by decide +kernel
theorem dX10_mixTown_64 : decode t_X10_mixTown.2.1 64 = .ok (.i2l, 1) := by decide +kernel
theorem dX10_mixTown_65 : decode t_X10_mixTown.2.1 65 = .ok (.invokevirtual 305, 3) := by decide +kernel
theorem iX10_mixTown_65 : wm_iv t_X10_mixTown t_X10_mix 65 := ⟨305, wd_1600, dX10_mixTown_65⟩
theorem dX10_mixTown_68 : decode t_X10_mixTown.2.1 68 = .ok (.iconst 0, 1) := by decide +kernel
theorem dX10_mixTown_69 : decode t_X10_mixTown.2.1 69 = .ok (.istore_n 2, 1) := by decide +kernel
theorem dX10_mixTown_70 : decode t_X10_mixTown.2.1 70 = .ok (.iload_n 2, 1) := by decide +kernel
theorem dX10_mixTown_71 : decode t_X10_mixTown.2.1 71 = .ok (.aload_n 0, 1) := by decide +kernel
theorem dX10_mixTown_72 : decode t_X10_mixTown.2.1 72 = .ok (.getfield 47, 3) := by decide +kernel
theorem gX10_mixTown_72 : wm_gf t_X10_mixTown 72 10 25 := ⟨_, _, _, 47, rfl, by decide, wd_1139, dX10_mixTown_72⟩
theorem dX10_mixTown_75 : decode t_X10_mixTown.2.1 75 = .ok (.iload_n 1, 1) := by decide +kernel
theorem dX10_mixTown_76 : decode t_X10_mixTown.2.1 76 = .ok (.iaload, 1) := by decide +kernel
theorem dX10_mixTown_77 : decode t_X10_mixTown.2.1 77 = .ok (.if_icmp .ge 24, 3) := by decide +kernel
theorem dX10_mixTown_80 : decode t_X10_mixTown.2.1 80 = .ok (.aload_n 0, 1) := by decide +kernel
theorem dX10_mixTown_81 : decode t_X10_mixTown.2.1 81 = .ok (.aload_n 0, 1) := by decide +kernel
theorem dX10_mixTown_82 : decode t_X10_mixTown.2.1 82 = .ok (.getfield 50, 3) := by decide +kernel
theorem gX10_mixTown_82 : wm_gf t_X10_mixTown 82 10 26 := ⟨_, _, _, 50, rfl, by decide, wd_1140, dX10_mixTown_82⟩
theorem dX10_mixTown_85 : decode t_X10_mixTown.2.1 85 = .ok (.iconst 3, 1) := by decide +kernel
theorem dX10_mixTown_86 : decode t_X10_mixTown.2.1 86 = .ok (.iload_n 1, 1) := by decide +kernel
theorem dX10_mixTown_87 : decode t_X10_mixTown.2.1 87 = .ok (.imul, 1) := by decide +kernel
theorem dX10_mixTown_88 : decode t_X10_mixTown.2.1 88 = .ok (.iload_n 2, 1) := by decide +kernel
theorem dX10_mixTown_89 : decode t_X10_mixTown.2.1 89 = .ok (.iadd, 1) := by decide +kernel
theorem dX10_mixTown_90 : decode t_X10_mixTown.2.1 90 = .ok (.iaload, 1) := by decide +kernel
theorem dX10_mixTown_91 : decode t_X10_mixTown.2.1 91 = .ok (.i2l, 1) := by decide +kernel
theorem dX10_mixTown_92 : decode t_X10_mixTown.2.1 92 = .ok (.invokevirtual 305, 3) := by decide +kernel
theorem iX10_mixTown_92 : wm_iv t_X10_mixTown t_X10_mix 92 := ⟨305, wd_1600, dX10_mixTown_92⟩
theorem dX10_mixTown_95 : decode t_X10_mixTown.2.1 95 = .ok (.iinc 2 1, 3) := by decide +kernel
theorem dX10_mixTown_98 : decode t_X10_mixTown.2.1 98 = .ok (.goto (-28), 3) := by decide +kernel
theorem dX10_mixTown_101 : decode t_X10_mixTown.2.1 101 = .ok (.iinc 1 1, 3) := by decide +kernel
theorem dX10_mixTown_104 : decode t_X10_mixTown.2.1 104 = .ok (.goto (-52), 3) := by decide +kernel
theorem dX10_mixTown_107 : decode t_X10_mixTown.2.1 107 = .ok (.iconst 0, 1) := by decide +kernel
theorem dX10_mixTown_108 : decode t_X10_mixTown.2.1 108 = .ok (.istore_n 1, 1) := by decide +kernel
theorem dX10_mixTown_109 : decode t_X10_mixTown.2.1 109 = .ok (.iload_n 1, 1) := by decide +kernel
theorem dX10_mixTown_110 : decode t_X10_mixTown.2.1 110 = .ok (.aload_n 0, 1) := by decide +kernel
theorem dX10_mixTown_111 : decode t_X10_mixTown.2.1 111 = .ok (.getfield 170, 3) := by decide +kernel
theorem gX10_mixTown_111 : wm_gf t_X10_mixTown 111 10 36 := ⟨_, _, _, 170, rfl, by decide, wd_1150, dX10_mixTown_111⟩
theorem dX10_mixTown_114 : decode t_X10_mixTown.2.1 114 = .ok (.if_icmp .ge 54, 3) := by decide +kernel
theorem dX10_mixTown_117 : decode t_X10_mixTown.2.1 117 = .ok (.iconst 0, 1) := by decide +kernel
theorem dX10_mixTown_118 : decode t_X10_mixTown.2.1 118 = .ok (.istore_n 2, 1) := by decide +kernel
theorem dX10_mixTown_119 : decode t_X10_mixTown.2.1 119 = .ok (.iload_n 2, 1) := by decide +kernel
theorem dX10_mixTown_120 : decode t_X10_mixTown.2.1 120 = .ok (.iconst 3, 1) := by decide +kernel
theorem dX10_mixTown_121 : decode t_X10_mixTown.2.1 121 = .ok (.aload_n 0, 1) := by decide +kernel
theorem dX10_mixTown_122 : decode t_X10_mixTown.2.1 122 = .ok (.aload_n 0, 1) := by decide +kernel
theorem dX10_mixTown_123 : decode t_X10_mixTown.2.1 123 = .ok (.getfield 78, 3) := by decide +kernel
theorem gX10_mixTown_123 : wm_gf t_X10_mixTown 123 10 37 := ⟨_, _, _, 78, rfl, by decide, wd_1151, dX10_mixTown_123⟩
theorem dX10_mixTown_126 : decode t_X10_mixTown.2.1 126 = .ok (.bipush 6, 2) := by decide +kernel
theorem dX10_mixTown_128 : decode t_X10_mixTown.2.1 128 = .ok (.iload_n 1, 1) := by decide +kernel
theorem dX10_mixTown_129 : decode t_X10_mixTown.2.1 129 = .ok (.imul, 1) := by decide +kernel
theorem dX10_mixTown_130 : decode t_X10_mixTown.2.1 130 = .ok (.iconst 1, 1) := by decide +kernel
theorem dX10_mixTown_131 : decode t_X10_mixTown.2.1 131 = .ok (.iadd, 1) := by decide +kernel
theorem dX10_mixTown_132 : decode t_X10_mixTown.2.1 132 = .ok (.iaload, 1) := by decide +kernel
theorem dX10_mixTown_133 : decode t_X10_mixTown.2.1 133 = .ok (.invokevirtual 196, 3) := by decide +kernel
theorem iX10_mixTown_133 : wm_iv t_X10_mixTown t_X10_longOf 133 := ⟨196, wd_1393, dX10_mixTown_133⟩
theorem dX10_mixTown_136 : decode t_X10_mixTown.2.1 136 = .ok (.iadd, 1) := by decide +kernel
theorem dX10_mixTown_137 : decode t_X10_mixTown.2.1 137 = .ok (.if_icmp .ge 25, 3) := by decide +kernel
theorem dX10_mixTown_140 : decode t_X10_mixTown.2.1 140 = .ok (.aload_n 0, 1) := by decide +kernel
theorem dX10_mixTown_141 : decode t_X10_mixTown.2.1 141 = .ok (.aload_n 0, 1) := by decide +kernel
theorem dX10_mixTown_142 : decode t_X10_mixTown.2.1 142 = .ok (.getfield 78, 3) := by decide +kernel
theorem gX10_mixTown_142 : wm_gf t_X10_mixTown 142 10 37 := ⟨_, _, _, 78, rfl, by decide, wd_1151, dX10_mixTown_142⟩
theorem dX10_mixTown_145 : decode t_X10_mixTown.2.1 145 = .ok (.bipush 6, 2) := by decide +kernel
theorem dX10_mixTown_147 : decode t_X10_mixTown.2.1 147 = .ok (.iload_n 1, 1) := by decide +kernel
theorem dX10_mixTown_148 : decode t_X10_mixTown.2.1 148 = .ok (.imul, 1) := by decide +kernel
theorem dX10_mixTown_149 : decode t_X10_mixTown.2.1 149 = .ok (.iload_n 2, 1) := by decide +kernel
theorem dX10_mixTown_150 : decode t_X10_mixTown.2.1 150 = .ok (.iadd, 1) := by decide +kernel
theorem dX10_mixTown_151 : decode t_X10_mixTown.2.1 151 = .ok (.iaload, 1) := by decide +kernel
theorem dX10_mixTown_152 : decode t_X10_mixTown.2.1 152 = .ok (.i2l, 1) := by decide +kernel
theorem dX10_mixTown_153 : decode t_X10_mixTown.2.1 153 = .ok (.invokevirtual 305, 3) := by decide +kernel
theorem iX10_mixTown_153 : wm_iv t_X10_mixTown t_X10_mix 153 := ⟨305, wd_1600, dX10_mixTown_153⟩
theorem dX10_mixTown_156 : decode t_X10_mixTown.2.1 156 = .ok (.iinc 2 1, 3) := by decide +kernel
theorem dX10_mixTown_159 : decode t_X10_mixTown.2.1 159 = .ok (.goto (-40), 3) := by decide +kernel
theorem dX10_mixTown_162 : decode t_X10_mixTown.2.1 162 = .ok (.iinc 1 1, 3) := by decide +kernel
theorem dX10_mixTown_165 : decode t_X10_mixTown.2.1 165 = .ok (.goto (-56), 3) := by decide +kernel
theorem dX10_mixTown_168 : decode t_X10_mixTown.2.1 168 = .ok (.iconst 0, 1) := by decide +kernel
theorem dX10_mixTown_169 : decode t_X10_mixTown.2.1 169 = .ok (.istore_n 1, 1) := by decide +kernel
theorem dX10_mixTown_170 : decode t_X10_mixTown.2.1 170 = .ok (.iload_n 1, 1) := by decide +kernel
theorem dX10_mixTown_171 : decode t_X10_mixTown.2.1 171 = .ok (.iconst 3, 1) := by decide +kernel
theorem dX10_mixTown_172 : decode t_X10_mixTown.2.1 172 = .ok (.if_icmp .ge 40, 3) := by decide +kernel
theorem dX10_mixTown_175 : decode t_X10_mixTown.2.1 175 = .ok (.aload_n 0, 1) := by decide +kernel
theorem dX10_mixTown_176 : decode t_X10_mixTown.2.1 176 = .ok (.aload_n 0, 1) := by decide +kernel
theorem dX10_mixTown_177 : decode t_X10_mixTown.2.1 177 = .ok (.getfield 56, 3) := by decide +kernel
theorem gX10_mixTown_177 : wm_gf t_X10_mixTown 177 10 28 := ⟨_, _, _, 56, rfl, by decide, wd_1142, dX10_mixTown_177⟩
theorem dX10_mixTown_180 : decode t_X10_mixTown.2.1 180 = .ok (.iload_n 1, 1) := by decide +kernel
theorem dX10_mixTown_181 : decode t_X10_mixTown.2.1 181 = .ok (.iaload, 1) := by decide +kernel
theorem dX10_mixTown_182 : decode t_X10_mixTown.2.1 182 = .ok (.i2l, 1) := by decide +kernel
theorem dX10_mixTown_183 : decode t_X10_mixTown.2.1 183 = .ok (.invokevirtual 305, 3) := by decide +kernel
theorem iX10_mixTown_183 : wm_iv t_X10_mixTown t_X10_mix 183 := ⟨305, wd_1600, dX10_mixTown_183⟩
theorem dX10_mixTown_186 : decode t_X10_mixTown.2.1 186 = .ok (.aload_n 0, 1) := by decide +kernel
theorem dX10_mixTown_187 : decode t_X10_mixTown.2.1 187 = .ok (.getfield 56, 3) := by decide +kernel
theorem gX10_mixTown_187 : wm_gf t_X10_mixTown 187 10 28 := ⟨_, _, _, 56, rfl, by decide, wd_1142, dX10_mixTown_187⟩
theorem dX10_mixTown_190 : decode t_X10_mixTown.2.1 190 = .ok (.iload_n 1, 1) := by decide +kernel
theorem dX10_mixTown_191 : decode t_X10_mixTown.2.1 191 = .ok (.iaload, 1) := by decide +kernel
theorem dX10_mixTown_192 : decode t_X10_mixTown.2.1 192 = .ok (.ifCond .lt 14, 3) := by decide +kernel
theorem dX10_mixTown_195 : decode t_X10_mixTown.2.1 195 = .ok (.aload_n 0, 1) := by decide +kernel
theorem dX10_mixTown_196 : decode t_X10_mixTown.2.1 196 = .ok (.aload_n 0, 1) := by decide +kernel
theorem dX10_mixTown_197 : decode t_X10_mixTown.2.1 197 = .ok (.getfield 59, 3) := by decide +kernel
theorem gX10_mixTown_197 : wm_gf t_X10_mixTown 197 10 29 := ⟨_, _, _, 59, rfl, by decide, wd_1143, dX10_mixTown_197⟩
theorem dX10_mixTown_200 : decode t_X10_mixTown.2.1 200 = .ok (.iload_n 1, 1) := by decide +kernel
theorem dX10_mixTown_201 : decode t_X10_mixTown.2.1 201 = .ok (.iaload, 1) := by decide +kernel
theorem dX10_mixTown_202 : decode t_X10_mixTown.2.1 202 = .ok (.i2l, 1) := by decide +kernel
theorem dX10_mixTown_203 : decode t_X10_mixTown.2.1 203 = .ok (.invokevirtual 305, 3) := by decide +kernel
theorem iX10_mixTown_203 : wm_iv t_X10_mixTown t_X10_mix 203 := ⟨305, wd_1600, dX10_mixTown_203⟩
theorem dX10_mixTown_206 : decode t_X10_mixTown.2.1 206 = .ok (.iinc 1 1, 3) := by decide +kernel
theorem dX10_mixTown_209 : decode t_X10_mixTown.2.1 209 = .ok (.goto (-39), 3) := by decide +kernel
theorem dX10_mixTown_212 : decode t_X10_mixTown.2.1 212 = .ok (.return_, 1) := by decide +kernel
theorem wd_1598 : Cond.code yX10_digest cX10_digest 3 (some .long) ∈ lw_gd := List.mem_filter.mpr ⟨List.mem_of_getElem? (i := 1598) (by decide +kernel), by decide +kernel⟩
theorem wd_1596 : Cond.instanceMethod yX10_digest ∈ lw_gd := List.mem_filter.mpr ⟨List.mem_of_getElem? (i := 1596) (by decide +kernel), by decide +kernel⟩
theorem wd_1597 : Cond.selects RX10 yX10_digest yX10_digest ∈ lw_gd := List.mem_filter.mpr ⟨List.mem_of_getElem? (i := 1597) (by decide +kernel), by decide +kernel⟩
theorem vX10_digest : wm_calV t_X10_digest 0 := ⟨⟨wd_1598, wd_88, by decide +kernel, by decide +kernel, by decide +kernel⟩, wd_1596, wd_1597⟩
theorem dX10_digest_0 : decode t_X10_digest.2.1 0 = .ok (.aload_n 0, 1) := by decide +kernel
theorem dX10_digest_1 : decode t_X10_digest.2.1 1 = .ok (.ldc2_w 309, 3) := by decide +kernel
theorem wd_1599 : Cond.constantLong RX10 309 (17) ∈ lw_gd := List.mem_filter.mpr ⟨List.mem_of_getElem? (i := 1599) (by decide +kernel), by decide +kernel⟩
theorem kX10_digest_1 : Cond.constantLong t_X10_digest.1.cls 309 (17) ∈ lw_gd := wd_1599
theorem dX10_digest_4 : decode t_X10_digest.2.1 4 = .ok (.putfield 302, 3) := by decide +kernel
theorem gX10_digest_4 : wm_pf t_X10_digest 4 10 40 .long := ⟨_, _, _, 302, rfl, by decide, wd_1154, dX10_digest_4, rfl, by decide +kernel⟩
theorem dX10_digest_7 : decode t_X10_digest.2.1 7 = .ok (.iconst 0, 1) := by decide +kernel
theorem dX10_digest_8 : decode t_X10_digest.2.1 8 = .ok (.istore_n 1, 1) := by decide +kernel
theorem dX10_digest_9 : decode t_X10_digest.2.1 9 = .ok (.iload_n 1, 1) := by decide +kernel
theorem dX10_digest_10 : decode t_X10_digest.2.1 10 = .ok (.bipush 8, 2) := by decide +kernel
theorem dX10_digest_12 : decode t_X10_digest.2.1 12 = .ok (.if_icmp .ge 19, 3) := by decide +kernel
theorem dX10_digest_15 : decode t_X10_digest.2.1 15 = .ok (.aload_n 0, 1) := by decide +kernel
theorem dX10_digest_16 : decode t_X10_digest.2.1 16 = .ok (.aload_n 0, 1) := by decide +kernel
theorem dX10_digest_17 : decode t_X10_digest.2.1 17 = .ok (.iload_n 1, 1) := by decide +kernel
theorem dX10_digest_18 : decode t_X10_digest.2.1 18 = .ok (.invokevirtual 297, 3) := by decide +kernel
theorem iX10_digest_18 : wm_iv t_X10_digest t_X10_counted 18 := ⟨297, wd_1591, dX10_digest_18⟩
theorem dX10_digest_21 : decode t_X10_digest.2.1 21 = .ok (.i2l, 1) := by decide +kernel
theorem dX10_digest_22 : decode t_X10_digest.2.1 22 = .ok (.invokevirtual 305, 3) := by decide +kernel
theorem iX10_digest_22 : wm_iv t_X10_digest t_X10_mix 22 := ⟨305, wd_1600, dX10_digest_22⟩
theorem dX10_digest_25 : decode t_X10_digest.2.1 25 = .ok (.iinc 1 1, 3) := by decide +kernel
theorem dX10_digest_28 : decode t_X10_digest.2.1 28 = .ok (.goto (-19), 3) := by decide +kernel
theorem dX10_digest_31 : decode t_X10_digest.2.1 31 = .ok (.aload_n 0, 1) := by decide +kernel
theorem dX10_digest_32 : decode t_X10_digest.2.1 32 = .ok (.invokevirtual 311, 3) := by decide +kernel
theorem wd_1605 : Cond.methodLink RX10 311 yX10_mixTown ∈ lw_gd := List.mem_filter.mpr ⟨List.mem_of_getElem? (i := 1605) (by decide +kernel), by decide +kernel⟩
theorem iX10_digest_32 : wm_iv t_X10_digest t_X10_mixTown 32 := ⟨311, wd_1605, dX10_digest_32⟩
theorem dX10_digest_35 : decode t_X10_digest.2.1 35 = .ok (.iconst 0, 1) := by decide +kernel
theorem dX10_digest_36 : decode t_X10_digest.2.1 36 = .ok (.istore_n 1, 1) := by decide +kernel
theorem dX10_digest_37 : decode t_X10_digest.2.1 37 = .ok (.iload_n 1, 1) := by decide +kernel
theorem dX10_digest_38 : decode t_X10_digest.2.1 38 = .ok (.bipush 6, 2) := by decide +kernel
theorem dX10_digest_40 : decode t_X10_digest.2.1 40 = .ok (.if_icmp .ge 49, 3) := by decide +kernel
theorem dX10_digest_43 : decode t_X10_digest.2.1 43 = .ok (.aload_n 0, 1) := by decide +kernel
theorem dX10_digest_44 : decode t_X10_digest.2.1 44 = .ok (.aload_n 0, 1) := by decide +kernel
theorem dX10_digest_45 : decode t_X10_digest.2.1 45 = .ok (.getfield 13, 3) := by decide +kernel
theorem gX10_digest_45 : wm_gf t_X10_digest 45 10 5 := ⟨_, _, _, 13, rfl, by decide, wd_1119, dX10_digest_45⟩
theorem dX10_digest_48 : decode t_X10_digest.2.1 48 = .ok (.iload_n 1, 1) := by decide +kernel
theorem dX10_digest_49 : decode t_X10_digest.2.1 49 = .ok (.iaload, 1) := by decide +kernel
theorem dX10_digest_50 : decode t_X10_digest.2.1 50 = .ok (.i2l, 1) := by decide +kernel
theorem dX10_digest_51 : decode t_X10_digest.2.1 51 = .ok (.invokevirtual 305, 3) := by decide +kernel
theorem iX10_digest_51 : wm_iv t_X10_digest t_X10_mix 51 := ⟨305, wd_1600, dX10_digest_51⟩
theorem dX10_digest_54 : decode t_X10_digest.2.1 54 = .ok (.iconst 0, 1) := by decide +kernel
theorem dX10_digest_55 : decode t_X10_digest.2.1 55 = .ok (.istore_n 2, 1) := by decide +kernel
theorem dX10_digest_56 : decode t_X10_digest.2.1 56 = .ok (.iload_n 2, 1) := by decide +kernel
theorem dX10_digest_57 : decode t_X10_digest.2.1 57 = .ok (.aload_n 0, 1) := by decide +kernel
theorem dX10_digest_58 : decode t_X10_digest.2.1 58 = .ok (.getfield 13, 3) := by decide +kernel
theorem gX10_digest_58 : wm_gf t_X10_digest 58 10 5 := ⟨_, _, _, 13, rfl, by decide, wd_1119, dX10_digest_58⟩
theorem dX10_digest_61 : decode t_X10_digest.2.1 61 = .ok (.iload_n 1, 1) := by decide +kernel
theorem dX10_digest_62 : decode t_X10_digest.2.1 62 = .ok (.iaload, 1) := by decide +kernel
theorem dX10_digest_63 : decode t_X10_digest.2.1 63 = .ok (.if_icmp .ge 20, 3) := by decide +kernel
theorem dX10_digest_66 : decode t_X10_digest.2.1 66 = .ok (.aload_n 0, 1) := by decide +kernel
theorem dX10_digest_67 : decode t_X10_digest.2.1 67 = .ok (.aload_n 0, 1) := by decide +kernel
theorem dX10_digest_68 : decode t_X10_digest.2.1 68 = .ok (.iload_n 1, 1) := by decide +kernel
theorem dX10_digest_69 : decode t_X10_digest.2.1 69 = .ok (.iload_n 2, 1) := by decide +kernel
theorem dX10_digest_70 : decode t_X10_digest.2.1 70 = .ok (.invokevirtual 115, 3) := by decide +kernel
theorem iX10_digest_70 : wm_iv t_X10_digest t_X10_rowAt 70 := ⟨115, wd_1278, dX10_digest_70⟩
theorem dX10_digest_73 : decode t_X10_digest.2.1 73 = .ok (.i2l, 1) := by decide +kernel
theorem dX10_digest_74 : decode t_X10_digest.2.1 74 = .ok (.invokevirtual 305, 3) := by decide +kernel
theorem iX10_digest_74 : wm_iv t_X10_digest t_X10_mix 74 := ⟨305, wd_1600, dX10_digest_74⟩
theorem dX10_digest_77 : decode t_X10_digest.2.1 77 = .ok (.iinc 2 1, 3) := by decide +kernel
theorem dX10_digest_80 : decode t_X10_digest.2.1 80 = .ok (.goto (-24), 3) := by decide +kernel
theorem dX10_digest_83 : decode t_X10_digest.2.1 83 = .ok (.iinc 1 1, 3) := by decide +kernel
theorem dX10_digest_86 : decode t_X10_digest.2.1 86 = .ok (.goto (-49), 3) := by decide +kernel
theorem dX10_digest_89 : decode t_X10_digest.2.1 89 = .ok (.iconst 0, 1) := by decide +kernel
theorem dX10_digest_90 : decode t_X10_digest.2.1 90 = .ok (.istore_n 1, 1) := by decide +kernel
theorem dX10_digest_91 : decode t_X10_digest.2.1 91 = .ok (.iload_n 1, 1) := by decide +kernel
theorem dX10_digest_92 : decode t_X10_digest.2.1 92 = .ok (.iconst 4, 1) := by decide +kernel
theorem dX10_digest_93 : decode t_X10_digest.2.1 93 = .ok (.if_icmp .ge 49, 3) := by decide +kernel
theorem dX10_digest_96 : decode t_X10_digest.2.1 96 = .ok (.aload_n 0, 1) := by decide +kernel
theorem dX10_digest_97 : decode t_X10_digest.2.1 97 = .ok (.aload_n 0, 1) := by decide +kernel
theorem dX10_digest_98 : decode t_X10_digest.2.1 98 = .ok (.getfield 22, 3) := by decide +kernel
theorem gX10_digest_98 : wm_gf t_X10_digest 98 10 8 := ⟨_, _, _, 22, rfl, by decide, wd_1122, dX10_digest_98⟩
theorem dX10_digest_101 : decode t_X10_digest.2.1 101 = .ok (.iload_n 1, 1) := by decide +kernel
theorem dX10_digest_102 : decode t_X10_digest.2.1 102 = .ok (.iaload, 1) := by decide +kernel
theorem dX10_digest_103 : decode t_X10_digest.2.1 103 = .ok (.i2l, 1) := by decide +kernel
theorem dX10_digest_104 : decode t_X10_digest.2.1 104 = .ok (.invokevirtual 305, 3) := by decide +kernel
theorem iX10_digest_104 : wm_iv t_X10_digest t_X10_mix 104 := ⟨305, wd_1600, dX10_digest_104⟩
theorem dX10_digest_107 : decode t_X10_digest.2.1 107 = .ok (.iconst 0, 1) := by decide +kernel
theorem dX10_digest_108 : decode t_X10_digest.2.1 108 = .ok (.istore_n 2, 1) := by decide +kernel
theorem dX10_digest_109 : decode t_X10_digest.2.1 109 = .ok (.iload_n 2, 1) := by decide +kernel
theorem dX10_digest_110 : decode t_X10_digest.2.1 110 = .ok (.aload_n 0, 1) := by decide +kernel
theorem dX10_digest_111 : decode t_X10_digest.2.1 111 = .ok (.getfield 22, 3) := by decide +kernel
theorem gX10_digest_111 : wm_gf t_X10_digest 111 10 8 := ⟨_, _, _, 22, rfl, by decide, wd_1122, dX10_digest_111⟩
theorem dX10_digest_114 : decode t_X10_digest.2.1 114 = .ok (.iload_n 1, 1) := by decide +kernel
theorem dX10_digest_115 : decode t_X10_digest.2.1 115 = .ok (.iaload, 1) := by decide +kernel
theorem dX10_digest_116 : decode t_X10_digest.2.1 116 = .ok (.if_icmp .ge 20, 3) := by decide +kernel
theorem dX10_digest_119 : decode t_X10_digest.2.1 119 = .ok (.aload_n 0, 1) := by decide +kernel
theorem dX10_digest_120 : decode t_X10_digest.2.1 120 = .ok (.aload_n 0, 1) := by decide +kernel
theorem dX10_digest_121 : decode t_X10_digest.2.1 121 = .ok (.iload_n 1, 1) := by decide +kernel
theorem dX10_digest_122 : decode t_X10_digest.2.1 122 = .ok (.iload_n 2, 1) := by decide +kernel
theorem dX10_digest_123 : decode t_X10_digest.2.1 123 = .ok (.invokevirtual 128, 3) := by decide +kernel
theorem iX10_digest_123 : wm_iv t_X10_digest t_X10_byteAt 123 := ⟨128, wd_1321, dX10_digest_123⟩
theorem dX10_digest_126 : decode t_X10_digest.2.1 126 = .ok (.i2l, 1) := by decide +kernel
theorem dX10_digest_127 : decode t_X10_digest.2.1 127 = .ok (.invokevirtual 305, 3) := by decide +kernel
theorem iX10_digest_127 : wm_iv t_X10_digest t_X10_mix 127 := ⟨305, wd_1600, dX10_digest_127⟩
theorem dX10_digest_130 : decode t_X10_digest.2.1 130 = .ok (.iinc 2 1, 3) := by decide +kernel
theorem dX10_digest_133 : decode t_X10_digest.2.1 133 = .ok (.goto (-24), 3) := by decide +kernel
theorem dX10_digest_136 : decode t_X10_digest.2.1 136 = .ok (.iinc 1 1, 3) := by decide +kernel
theorem dX10_digest_139 : decode t_X10_digest.2.1 139 = .ok (.goto (-48), 3) := by decide +kernel
theorem dX10_digest_142 : decode t_X10_digest.2.1 142 = .ok (.aload_n 0, 1) := by decide +kernel
theorem dX10_digest_143 : decode t_X10_digest.2.1 143 = .ok (.getfield 302, 3) := by decide +kernel
theorem gX10_digest_143 : wm_gf t_X10_digest 143 10 40 := ⟨_, _, _, 302, rfl, by decide, wd_1154, dX10_digest_143⟩
theorem dX10_digest_146 : decode t_X10_digest.2.1 146 = .ok (.lreturn, 1) := by decide +kernel
