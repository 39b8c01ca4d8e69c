theorem wd_949 : Cond.code yX1_isTold cX1_isTold 4 (some .boolean) ∈ lw_gd := List.mem_filter.mpr ⟨List.mem_of_getElem? (i := 949) (by decide +kernel), by decide +kernel⟩
theorem wd_86 : Cond.initialized RX1 ∈ lw_gd := List.mem_filter.mpr ⟨List.mem_of_getElem? (i := 86) (by decide +kernel), by decide +kernel⟩
theorem wd_947 : Cond.instanceMethod yX1_isTold ∈ lw_gd := List.mem_filter.mpr ⟨List.mem_of_getElem? (i := 947) (by decide +kernel), by decide +kernel⟩
theorem wd_948 : Cond.selects RX1 yX1_isTold yX1_isTold ∈ lw_gd := List.mem_filter.mpr ⟨List.mem_of_getElem? (i := 948) (by decide +kernel), by decide +kernel⟩
theorem vX1_isTold : wm_calV t_X1_isTold 1 := ⟨⟨wd_949, wd_86, by decide +kernel, by decide +kernel, by decide +kernel⟩, wd_947, wd_948⟩
theorem dX1_isTold_0 : decode t_X1_isTold.2.1 0 = .ok (.aload_n 0, 1) := by decide +kernel
theorem dX1_isTold_1 : decode t_X1_isTold.2.1 1 = .ok (.getfield 11, 3) := by decide +kernel
theorem wd_295 : Cond.fieldLink RX1 11 "TurnedStones$Past" "live" "[LTurnedStones$StateSet;" ∈ lw_gd := List.mem_filter.mpr ⟨List.mem_of_getElem? (i := 295) (by decide +kernel), by decide +kernel⟩
theorem gX1_isTold_1 : wm_gf t_X1_isTold 1 1 0 := ⟨_, _, _, 11, rfl, by decide, wd_295, dX1_isTold_1⟩
theorem dX1_isTold_4 : decode t_X1_isTold.2.1 4 = .ok (.iconst 0, 1) := by decide +kernel
theorem dX1_isTold_5 : decode t_X1_isTold.2.1 5 = .ok (.aaload, 1) := by decide +kernel
theorem dX1_isTold_6 : decode t_X1_isTold.2.1 6 = .ok (.iconst 0, 1) := by decide +kernel
theorem dX1_isTold_7 : decode t_X1_isTold.2.1 7 = .ok (.invokevirtual 40, 3) := by decide +kernel
theorem wd_950 : Cond.methodLink RX1 40 yX3_only ∈ lw_gd := List.mem_filter.mpr ⟨List.mem_of_getElem? (i := 950) (by decide +kernel), by decide +kernel⟩
theorem iX1_isTold_7 : wm_iv t_X1_isTold t_X3_only 7 := ⟨40, wd_950, dX1_isTold_7⟩
theorem dX1_isTold_10 : decode t_X1_isTold.2.1 10 = .ok (.aload_n 0, 1) := by decide +kernel
theorem dX1_isTold_11 : decode t_X1_isTold.2.1 11 = .ok (.iconst 0, 1) := by decide +kernel
theorem dX1_isTold_12 : decode t_X1_isTold.2.1 12 = .ok (.invokevirtual 44, 3) := by decide +kernel
theorem wd_951 : Cond.methodLink RX1 44 yX1_meetFitting ∈ lw_gd := List.mem_filter.mpr ⟨List.mem_of_getElem? (i := 951) (by decide +kernel), by decide +kernel⟩
theorem iX1_isTold_12 : wm_iv t_X1_isTold t_X1_meetFitting 12 := ⟨44, wd_951, dX1_isTold_12⟩
theorem dX1_isTold_15 : decode t_X1_isTold.2.1 15 = .ok (.iconst 1, 1) := by decide +kernel
theorem dX1_isTold_16 : decode t_X1_isTold.2.1 16 = .ok (.istore_n 2, 1) := by decide +kernel
theorem dX1_isTold_17 : decode t_X1_isTold.2.1 17 = .ok (.iload_n 2, 1) := by decide +kernel
theorem dX1_isTold_18 : decode t_X1_isTold.2.1 18 = .ok (.iload_n 1, 1) := by decide +kernel
theorem dX1_isTold_19 : decode t_X1_isTold.2.1 19 = .ok (.if_icmp .gt 87, 3) := by decide +kernel
theorem dX1_isTold_22 : decode t_X1_isTold.2.1 22 = .ok (.aload_n 0, 1) := by decide +kernel
theorem dX1_isTold_23 : decode t_X1_isTold.2.1 23 = .ok (.getfield 11, 3) := by decide +kernel
theorem gX1_isTold_23 : wm_gf t_X1_isTold 23 1 0 := ⟨_, _, _, 11, rfl, by decide, wd_295, dX1_isTold_23⟩
theorem dX1_isTold_26 : decode t_X1_isTold.2.1 26 = .ok (.iload_n 2, 1) := by decide +kernel
theorem dX1_isTold_27 : decode t_X1_isTold.2.1 27 = .ok (.aaload, 1) := by decide +kernel
theorem dX1_isTold_28 : decode t_X1_isTold.2.1 28 = .ok (.aload_n 0, 1) := by decide +kernel
theorem dX1_isTold_29 : decode t_X1_isTold.2.1 29 = .ok (.getfield 11, 3) := by decide +kernel
theorem gX1_isTold_29 : wm_gf t_X1_isTold 29 1 0 := ⟨_, _, _, 11, rfl, by decide, wd_295, dX1_isTold_29⟩
theorem dX1_isTold_32 : decode t_X1_isTold.2.1 32 = .ok (.iload_n 2, 1) := by decide +kernel
theorem dX1_isTold_33 : decode t_X1_isTold.2.1 33 = .ok (.iconst 1, 1) := by decide +kernel
theorem dX1_isTold_34 : decode t_X1_isTold.2.1 34 = .ok (.isub, 1) := by decide +kernel
theorem dX1_isTold_35 : decode t_X1_isTold.2.1 35 = .ok (.aaload, 1) := by decide +kernel
theorem dX1_isTold_36 : decode t_X1_isTold.2.1 36 = .ok (.invokevirtual 47, 3) := by decide +kernel
theorem wd_972 : Cond.methodLink RX1 47 yX3_take ∈ lw_gd := List.mem_filter.mpr ⟨List.mem_of_getElem? (i := 972) (by decide +kernel), by decide +kernel⟩
theorem iX1_isTold_36 : wm_iv t_X1_isTold t_X3_take 36 := ⟨47, wd_972, dX1_isTold_36⟩
theorem dX1_isTold_39 : decode t_X1_isTold.2.1 39 = .ok (.iconst 0, 1) := by decide +kernel
theorem dX1_isTold_40 : decode t_X1_isTold.2.1 40 = .ok (.istore_n 3, 1) := by decide +kernel
theorem dX1_isTold_41 : decode t_X1_isTold.2.1 41 = .ok (.iload_n 3, 1) := by decide +kernel
theorem dX1_isTold_42 : decode t_X1_isTold.2.1 42 = .ok (.aload_n 0, 1) := by decide +kernel
theorem dX1_isTold_43 : decode t_X1_isTold.2.1 43 = .ok (.getfield 32, 3) := by decide +kernel
theorem wd_297 : Cond.fieldLink RX1 32 "TurnedStones$Past" "stones" "LTurnedStones$Stones;" ∈ lw_gd := List.mem_filter.mpr ⟨List.mem_of_getElem? (i := 297) (by decide +kernel), by decide +kernel⟩
theorem gX1_isTold_43 : wm_gf t_X1_isTold 43 1 1 := ⟨_, _, _, 32, rfl, by decide, wd_297, dX1_isTold_43⟩
theorem dX1_isTold_46 : decode t_X1_isTold.2.1 46 = .ok (.invokevirtual 51, 3) := by decide +kernel
theorem wd_973 : Cond.methodLink RX1 51 yX4_number ∈ lw_gd := List.mem_filter.mpr ⟨List.mem_of_getElem? (i := 973) (by decide +kernel), by decide +kernel⟩
theorem iX1_isTold_46 : wm_iv t_X1_isTold t_X4_number 46 := ⟨51, wd_973, dX1_isTold_46⟩
theorem dX1_isTold_49 : decode t_X1_isTold.2.1 49 = .ok (.if_icmp .ge 46, 3) := by decide +kernel
theorem dX1_isTold_52 : decode t_X1_isTold.2.1 52 = .ok (.aload_n 0, 1) := by decide +kernel
theorem dX1_isTold_53 : decode t_X1_isTold.2.1 53 = .ok (.getfield 32, 3) := by decide +kernel
theorem gX1_isTold_53 : wm_gf t_X1_isTold 53 1 1 := ⟨_, _, _, 32, rfl, by decide, wd_297, dX1_isTold_53⟩
theorem dX1_isTold_56 : decode t_X1_isTold.2.1 56 = .ok (.iload_n 3, 1) := by decide +kernel
theorem dX1_isTold_57 : decode t_X1_isTold.2.1 57 = .ok (.invokevirtual 57, 3) := by decide +kernel
theorem wd_974 : Cond.methodLink RX1 57 yX4_step ∈ lw_gd := List.mem_filter.mpr ⟨List.mem_of_getElem? (i := 974) (by decide +kernel), by decide +kernel⟩
theorem iX1_isTold_57 : wm_iv t_X1_isTold t_X4_step 57 := ⟨57, wd_974, dX1_isTold_57⟩
theorem dX1_isTold_60 : decode t_X1_isTold.2.1 60 = .ok (.ifCond .le 29, 3) := by decide +kernel
theorem dX1_isTold_63 : decode t_X1_isTold.2.1 63 = .ok (.aload_n 0, 1) := by decide +kernel
theorem dX1_isTold_64 : decode t_X1_isTold.2.1 64 = .ok (.getfield 11, 3) := by decide +kernel
theorem gX1_isTold_64 : wm_gf t_X1_isTold 64 1 0 := ⟨_, _, _, 11, rfl, by decide, wd_295, dX1_isTold_64⟩
theorem dX1_isTold_67 : decode t_X1_isTold.2.1 67 = .ok (.iload_n 2, 1) := by decide +kernel
theorem dX1_isTold_68 : decode t_X1_isTold.2.1 68 = .ok (.aaload, 1) := by decide +kernel
theorem dX1_isTold_69 : decode t_X1_isTold.2.1 69 = .ok (.aload_n 0, 1) := by decide +kernel
theorem dX1_isTold_70 : decode t_X1_isTold.2.1 70 = .ok (.getfield 11, 3) := by decide +kernel
theorem gX1_isTold_70 : wm_gf t_X1_isTold 70 1 0 := ⟨_, _, _, 11, rfl, by decide, wd_295, dX1_isTold_70⟩
theorem dX1_isTold_73 : decode t_X1_isTold.2.1 73 = .ok (.iload_n 2, 1) := by decide +kernel
theorem dX1_isTold_74 : decode t_X1_isTold.2.1 74 = .ok (.iconst 1, 1) := by decide +kernel
theorem dX1_isTold_75 : decode t_X1_isTold.2.1 75 = .ok (.isub, 1) := by decide +kernel
theorem dX1_isTold_76 : decode t_X1_isTold.2.1 76 = .ok (.aaload, 1) := by decide +kernel
theorem dX1_isTold_77 : decode t_X1_isTold.2.1 77 = .ok (.iload_n 3, 1) := by decide +kernel
theorem dX1_isTold_78 : decode t_X1_isTold.2.1 78 = .ok (.aload_n 0, 1) := by decide +kernel
theorem dX1_isTold_79 : decode t_X1_isTold.2.1 79 = .ok (.getfield 32, 3) := by decide +kernel
theorem gX1_isTold_79 : wm_gf t_X1_isTold 79 1 1 := ⟨_, _, _, 32, rfl, by decide, wd_297, dX1_isTold_79⟩
theorem dX1_isTold_82 : decode t_X1_isTold.2.1 82 = .ok (.iload_n 3, 1) := by decide +kernel
theorem dX1_isTold_83 : decode t_X1_isTold.2.1 83 = .ok (.invokevirtual 57, 3) := by decide +kernel
theorem iX1_isTold_83 : wm_iv t_X1_isTold t_X4_step 83 := ⟨57, wd_974, dX1_isTold_83⟩
theorem dX1_isTold_86 : decode t_X1_isTold.2.1 86 = .ok (.invokevirtual 61, 3) := by decide +kernel
theorem wd_975 : Cond.methodLink RX1 61 yX3_joinMoved ∈ lw_gd := List.mem_filter.mpr ⟨List.mem_of_getElem? (i := 975) (by decide +kernel), by decide +kernel⟩
theorem iX1_isTold_86 : wm_iv t_X1_isTold t_X3_joinMoved 86 := ⟨61, wd_975, dX1_isTold_86⟩
theorem dX1_isTold_89 : decode t_X1_isTold.2.1 89 = .ok (.iinc 3 1, 3) := by decide +kernel
theorem dX1_isTold_92 : decode t_X1_isTold.2.1 92 = .ok (.goto (-51), 3) := by decide +kernel
theorem dX1_isTold_95 : decode t_X1_isTold.2.1 95 = .ok (.aload_n 0, 1) := by decide +kernel
theorem dX1_isTold_96 : decode t_X1_isTold.2.1 96 = .ok (.iload_n 2, 1) := by decide +kernel
theorem dX1_isTold_97 : decode t_X1_isTold.2.1 97 = .ok (.invokevirtual 44, 3) := by decide +kernel
theorem iX1_isTold_97 : wm_iv t_X1_isTold t_X1_meetFitting 97 := ⟨44, wd_951, dX1_isTold_97⟩
theorem dX1_isTold_100 : decode t_X1_isTold.2.1 100 = .ok (.iinc 2 1, 3) := by decide +kernel
theorem dX1_isTold_103 : decode t_X1_isTold.2.1 103 = .ok (.goto (-86), 3) := by decide +kernel
theorem dX1_isTold_106 : decode t_X1_isTold.2.1 106 = .ok (.iload_n 1, 1) := by decide +kernel
theorem dX1_isTold_107 : decode t_X1_isTold.2.1 107 = .ok (.istore_n 2, 1) := by decide +kernel
theorem dX1_isTold_108 : decode t_X1_isTold.2.1 108 = .ok (.iload_n 2, 1) := by decide +kernel
theorem dX1_isTold_109 : decode t_X1_isTold.2.1 109 = .ok (.iconst 1, 1) := by decide +kernel
theorem dX1_isTold_110 : decode t_X1_isTold.2.1 110 = .ok (.if_icmp .lt 14, 3) := by decide +kernel
theorem dX1_isTold_113 : decode t_X1_isTold.2.1 113 = .ok (.aload_n 0, 1) := by decide +kernel
theorem dX1_isTold_114 : decode t_X1_isTold.2.1 114 = .ok (.iload_n 2, 1) := by decide +kernel
theorem dX1_isTold_115 : decode t_X1_isTold.2.1 115 = .ok (.invokevirtual 65, 3) := by decide +kernel
theorem wd_976 : Cond.methodLink RX1 65 yX1_meetAhead ∈ lw_gd := List.mem_filter.mpr ⟨List.mem_of_getElem? (i := 976) (by decide +kernel), by decide +kernel⟩
theorem iX1_isTold_115 : wm_iv t_X1_isTold t_X1_meetAhead 115 := ⟨65, wd_976, dX1_isTold_115⟩
theorem dX1_isTold_118 : decode t_X1_isTold.2.1 118 = .ok (.iinc 2 (-1), 3) := by decide +kernel
theorem dX1_isTold_121 : decode t_X1_isTold.2.1 121 = .ok (.goto (-13), 3) := by decide +kernel
theorem dX1_isTold_124 : decode t_X1_isTold.2.1 124 = .ok (.aload_n 0, 1) := by decide +kernel
theorem dX1_isTold_125 : decode t_X1_isTold.2.1 125 = .ok (.getfield 11, 3) := by decide +kernel
theorem gX1_isTold_125 : wm_gf t_X1_isTold 125 1 0 := ⟨_, _, _, 11, rfl, by decide, wd_295, dX1_isTold_125⟩
theorem dX1_isTold_128 : decode t_X1_isTold.2.1 128 = .ok (.iload_n 1, 1) := by decide +kernel
theorem dX1_isTold_129 : decode t_X1_isTold.2.1 129 = .ok (.aaload, 1) := by decide +kernel
theorem dX1_isTold_130 : decode t_X1_isTold.2.1 130 = .ok (.invokevirtual 68, 3) := by decide +kernel
theorem wd_980 : Cond.methodLink RX1 68 yX3_isEmpty ∈ lw_gd := List.mem_filter.mpr ⟨List.mem_of_getElem? (i := 980) (by decide +kernel), by decide +kernel⟩
theorem iX1_isTold_130 : wm_iv t_X1_isTold t_X3_isEmpty 130 := ⟨68, wd_980, dX1_isTold_130⟩
theorem dX1_isTold_133 : decode t_X1_isTold.2.1 133 = .ok (.ifCond .ne 7, 3) := by decide +kernel
theorem dX1_isTold_136 : decode t_X1_isTold.2.1 136 = .ok (.iconst 1, 1) := by decide +kernel
theorem dX1_isTold_137 : decode t_X1_isTold.2.1 137 = .ok (.goto 4, 3) := by decide +kernel
theorem dX1_isTold_140 : decode t_X1_isTold.2.1 140 = .ok (.iconst 0, 1) := by decide +kernel
theorem dX1_isTold_141 : decode t_X1_isTold.2.1 141 = .ok (.ireturn, 1) := by decide +kernel
theorem wd_954 : Cond.code yX1_meetFitting cX1_meetFitting 2 (none) ∈ lw_gd := List.mem_filter.mpr ⟨List.mem_of_getElem? (i := 954) (by decide +kernel), by decide +kernel⟩
theorem wd_953 : Cond.instanceMethod yX1_meetFitting ∈ lw_gd := List.mem_filter.mpr ⟨List.mem_of_getElem? (i := 953) (by decide +kernel), by decide +kernel⟩
theorem wd_26 : Cond.selects RX1 yX1_meetFitting yX1_meetFitting ∈ lw_gd := List.mem_filter.mpr ⟨List.mem_of_getElem? (i := 26) (by decide +kernel), by decide +kernel⟩
theorem vX1_meetFitting : wm_calV t_X1_meetFitting 1 := ⟨⟨wd_954, wd_86, by decide +kernel, by decide +kernel, by decide +kernel⟩, wd_953, wd_26⟩
theorem dX1_meetFitting_0 : decode t_X1_meetFitting.2.1 0 = .ok (.aload_n 0, 1) := by decide +kernel
theorem dX1_meetFitting_1 : decode t_X1_meetFitting.2.1 1 = .ok (.getfield 32, 3) := by decide +kernel
theorem gX1_meetFitting_1 : wm_gf t_X1_meetFitting 1 1 1 := ⟨_, _, _, 32, rfl, by decide, wd_297, dX1_meetFitting_1⟩
theorem dX1_meetFitting_4 : decode t_X1_meetFitting.2.1 4 = .ok (.aload_n 0, 1) := by decide +kernel
theorem dX1_meetFitting_5 : decode t_X1_meetFitting.2.1 5 = .ok (.getfield 22, 3) := by decide +kernel
theorem wd_300 : Cond.fieldLink RX1 22 "TurnedStones$Past" "quarterBits" "[I" ∈ lw_gd := List.mem_filter.mpr ⟨List.mem_of_getElem? (i := 300) (by decide +kernel), by decide +kernel⟩
theorem gX1_meetFitting_5 : wm_gf t_X1_meetFitting 5 1 4 := ⟨_, _, _, 22, rfl, by decide, wd_300, dX1_meetFitting_5⟩
theorem dX1_meetFitting_8 : decode t_X1_meetFitting.2.1 8 = .ok (.invokevirtual 72, 3) := by decide +kernel
theorem wd_955 : Cond.methodLink RX1 72 yX4_quartersHad ∈ lw_gd := List.mem_filter.mpr ⟨List.mem_of_getElem? (i := 955) (by decide +kernel), by decide +kernel⟩
theorem iX1_meetFitting_8 : wm_iv t_X1_meetFitting t_X4_quartersHad 8 := ⟨72, wd_955, dX1_meetFitting_8⟩
theorem dX1_meetFitting_11 : decode t_X1_meetFitting.2.1 11 = .ok (.aload_n 0, 1) := by decide +kernel
theorem dX1_meetFitting_12 : decode t_X1_meetFitting.2.1 12 = .ok (.getfield 36, 3) := by decide +kernel
theorem wd_298 : Cond.fieldLink RX1 36 "TurnedStones$Past" "records" "LTurnedStones$Records;" ∈ lw_gd := List.mem_filter.mpr ⟨List.mem_of_getElem? (i := 298) (by decide +kernel), by decide +kernel⟩
theorem gX1_meetFitting_12 : wm_gf t_X1_meetFitting 12 1 2 := ⟨_, _, _, 36, rfl, by decide, wd_298, dX1_meetFitting_12⟩
theorem dX1_meetFitting_15 : decode t_X1_meetFitting.2.1 15 = .ok (.iload_n 1, 1) := by decide +kernel
theorem dX1_meetFitting_16 : decode t_X1_meetFitting.2.1 16 = .ok (.aload_n 0, 1) := by decide +kernel
theorem dX1_meetFitting_17 : decode t_X1_meetFitting.2.1 17 = .ok (.getfield 22, 3) := by decide +kernel
theorem gX1_meetFitting_17 : wm_gf t_X1_meetFitting 17 1 4 := ⟨_, _, _, 22, rfl, by decide, wd_300, dX1_meetFitting_17⟩
theorem dX1_meetFitting_20 : decode t_X1_meetFitting.2.1 20 = .ok (.invokevirtual 76, 3) := by decide +kernel
theorem wd_956 : Cond.methodLink RX1 76 yX2_meetFitting ∈ lw_gd := List.mem_filter.mpr ⟨List.mem_of_getElem? (i := 956) (by decide +kernel), by decide +kernel⟩
theorem iX1_meetFitting_20 : wm_iv t_X1_meetFitting t_X2_meetFitting 20 := ⟨76, wd_956, dX1_meetFitting_20⟩
theorem dX1_meetFitting_23 : decode t_X1_meetFitting.2.1 23 = .ok (.aload_n 0, 1) := by decide +kernel
theorem dX1_meetFitting_24 : decode t_X1_meetFitting.2.1 24 = .ok (.getfield 18, 3) := by decide +kernel
theorem wd_299 : Cond.fieldLink RX1 18 "TurnedStones$Past" "spare" "LTurnedStones$StateSet;" ∈ lw_gd := List.mem_filter.mpr ⟨List.mem_of_getElem? (i := 299) (by decide +kernel), by decide +kernel⟩
theorem gX1_meetFitting_24 : wm_gf t_X1_meetFitting 24 1 3 := ⟨_, _, _, 18, rfl, by decide, wd_299, dX1_meetFitting_24⟩
theorem dX1_meetFitting_27 : decode t_X1_meetFitting.2.1 27 = .ok (.invokevirtual 81, 3) := by decide +kernel
theorem wd_969 : Cond.methodLink RX1 81 yX3_clear ∈ lw_gd := List.mem_filter.mpr ⟨List.mem_of_getElem? (i := 969) (by decide +kernel), by decide +kernel⟩
theorem iX1_meetFitting_27 : wm_iv t_X1_meetFitting t_X3_clear 27 := ⟨81, wd_969, dX1_meetFitting_27⟩
theorem dX1_meetFitting_30 : decode t_X1_meetFitting.2.1 30 = .ok (.aload_n 0, 1) := by decide +kernel
theorem dX1_meetFitting_31 : decode t_X1_meetFitting.2.1 31 = .ok (.getfield 18, 3) := by decide +kernel
theorem gX1_meetFitting_31 : wm_gf t_X1_meetFitting 31 1 3 := ⟨_, _, _, 18, rfl, by decide, wd_299, dX1_meetFitting_31⟩
theorem dX1_meetFitting_34 : decode t_X1_meetFitting.2.1 34 = .ok (.aload_n 0, 1) := by decide +kernel
theorem dX1_meetFitting_35 : decode t_X1_meetFitting.2.1 35 = .ok (.getfield 22, 3) := by decide +kernel
theorem gX1_meetFitting_35 : wm_gf t_X1_meetFitting 35 1 4 := ⟨_, _, _, 22, rfl, by decide, wd_300, dX1_meetFitting_35⟩
theorem dX1_meetFitting_38 : decode t_X1_meetFitting.2.1 38 = .ok (.invokevirtual 84, 3) := by decide +kernel
theorem wd_970 : Cond.methodLink RX1 84 yX3_joinProduct ∈ lw_gd := List.mem_filter.mpr ⟨List.mem_of_getElem? (i := 970) (by decide +kernel), by decide +kernel⟩
theorem iX1_meetFitting_38 : wm_iv t_X1_meetFitting t_X3_joinProduct 38 := ⟨84, wd_970, dX1_meetFitting_38⟩
theorem dX1_meetFitting_41 : decode t_X1_meetFitting.2.1 41 = .ok (.aload_n 0, 1) := by decide +kernel
theorem dX1_meetFitting_42 : decode t_X1_meetFitting.2.1 42 = .ok (.getfield 11, 3) := by decide +kernel
theorem gX1_meetFitting_42 : wm_gf t_X1_meetFitting 42 1 0 := ⟨_, _, _, 11, rfl, by decide, wd_295, dX1_meetFitting_42⟩
theorem dX1_meetFitting_45 : decode t_X1_meetFitting.2.1 45 = .ok (.iload_n 1, 1) := by decide +kernel
theorem dX1_meetFitting_46 : decode t_X1_meetFitting.2.1 46 = .ok (.aaload, 1) := by decide +kernel
theorem dX1_meetFitting_47 : decode t_X1_meetFitting.2.1 47 = .ok (.aload_n 0, 1) := by decide +kernel
theorem dX1_meetFitting_48 : decode t_X1_meetFitting.2.1 48 = .ok (.getfield 18, 3) := by decide +kernel
theorem gX1_meetFitting_48 : wm_gf t_X1_meetFitting 48 1 3 := ⟨_, _, _, 18, rfl, by decide, wd_299, dX1_meetFitting_48⟩
theorem dX1_meetFitting_51 : decode t_X1_meetFitting.2.1 51 = .ok (.invokevirtual 87, 3) := by decide +kernel
theorem wd_971 : Cond.methodLink RX1 87 yX3_meet ∈ lw_gd := List.mem_filter.mpr ⟨List.mem_of_getElem? (i := 971) (by decide +kernel), by decide +kernel⟩
theorem iX1_meetFitting_51 : wm_iv t_X1_meetFitting t_X3_meet 51 := ⟨87, wd_971, dX1_meetFitting_51⟩
theorem dX1_meetFitting_54 : decode t_X1_meetFitting.2.1 54 = .ok (.return_, 1) := by decide +kernel
theorem wd_979 : Cond.code yX1_meetAhead cX1_meetAhead 3 (none) ∈ lw_gd := List.mem_filter.mpr ⟨List.mem_of_getElem? (i := 979) (by decide +kernel), by decide +kernel⟩
theorem wd_978 : Cond.instanceMethod yX1_meetAhead ∈ lw_gd := List.mem_filter.mpr ⟨List.mem_of_getElem? (i := 978) (by decide +kernel), by decide +kernel⟩
theorem wd_28 : Cond.selects RX1 yX1_meetAhead yX1_meetAhead ∈ lw_gd := List.mem_filter.mpr ⟨List.mem_of_getElem? (i := 28) (by decide +kernel), by decide +kernel⟩
theorem vX1_meetAhead : wm_calV t_X1_meetAhead 1 := ⟨⟨wd_979, wd_86, by decide +kernel, by decide +kernel, by decide +kernel⟩, wd_978, wd_28⟩
theorem dX1_meetAhead_0 : decode t_X1_meetAhead.2.1 0 = .ok (.aload_n 0, 1) := by decide +kernel
theorem dX1_meetAhead_1 : decode t_X1_meetAhead.2.1 1 = .ok (.getfield 18, 3) := by decide +kernel
theorem gX1_meetAhead_1 : wm_gf t_X1_meetAhead 1 1 3 := ⟨_, _, _, 18, rfl, by decide, wd_299, dX1_meetAhead_1⟩
theorem dX1_meetAhead_4 : decode t_X1_meetAhead.2.1 4 = .ok (.aload_n 0, 1) := by decide +kernel
theorem dX1_meetAhead_5 : decode t_X1_meetAhead.2.1 5 = .ok (.getfield 11, 3) := by decide +kernel
theorem gX1_meetAhead_5 : wm_gf t_X1_meetAhead 5 1 0 := ⟨_, _, _, 11, rfl, by decide, wd_295, dX1_meetAhead_5⟩
theorem dX1_meetAhead_8 : decode t_X1_meetAhead.2.1 8 = .ok (.iload_n 1, 1) := by decide +kernel
theorem dX1_meetAhead_9 : decode t_X1_meetAhead.2.1 9 = .ok (.aaload, 1) := by decide +kernel
theorem dX1_meetAhead_10 : decode t_X1_meetAhead.2.1 10 = .ok (.invokevirtual 47, 3) := by decide +kernel
theorem iX1_meetAhead_10 : wm_iv t_X1_meetAhead t_X3_take 10 := ⟨47, wd_972, dX1_meetAhead_10⟩
theorem dX1_meetAhead_13 : decode t_X1_meetAhead.2.1 13 = .ok (.iconst 0, 1) := by decide +kernel
theorem dX1_meetAhead_14 : decode t_X1_meetAhead.2.1 14 = .ok (.istore_n 2, 1) := by decide +kernel
theorem dX1_meetAhead_15 : decode t_X1_meetAhead.2.1 15 = .ok (.iload_n 2, 1) := by decide +kernel
theorem dX1_meetAhead_16 : decode t_X1_meetAhead.2.1 16 = .ok (.aload_n 0, 1) := by decide +kernel
theorem dX1_meetAhead_17 : decode t_X1_meetAhead.2.1 17 = .ok (.getfield 32, 3) := by decide +kernel
theorem gX1_meetAhead_17 : wm_gf t_X1_meetAhead 17 1 1 := ⟨_, _, _, 32, rfl, by decide, wd_297, dX1_meetAhead_17⟩
theorem dX1_meetAhead_20 : decode t_X1_meetAhead.2.1 20 = .ok (.invokevirtual 51, 3) := by decide +kernel
theorem iX1_meetAhead_20 : wm_iv t_X1_meetAhead t_X4_number 20 := ⟨51, wd_973, dX1_meetAhead_20⟩
theorem dX1_meetAhead_23 : decode t_X1_meetAhead.2.1 23 = .ok (.if_icmp .ge 44, 3) := by decide +kernel
theorem dX1_meetAhead_26 : decode t_X1_meetAhead.2.1 26 = .ok (.aload_n 0, 1) := by decide +kernel
theorem dX1_meetAhead_27 : decode t_X1_meetAhead.2.1 27 = .ok (.getfield 32, 3) := by decide +kernel
theorem gX1_meetAhead_27 : wm_gf t_X1_meetAhead 27 1 1 := ⟨_, _, _, 32, rfl, by decide, wd_297, dX1_meetAhead_27⟩
theorem dX1_meetAhead_30 : decode t_X1_meetAhead.2.1 30 = .ok (.iload_n 2, 1) := by decide +kernel
theorem dX1_meetAhead_31 : decode t_X1_meetAhead.2.1 31 = .ok (.invokevirtual 57, 3) := by decide +kernel
theorem iX1_meetAhead_31 : wm_iv t_X1_meetAhead t_X4_step 31 := ⟨57, wd_974, dX1_meetAhead_31⟩
theorem dX1_meetAhead_34 : decode t_X1_meetAhead.2.1 34 = .ok (.ifCond .le 27, 3) := by decide +kernel
theorem dX1_meetAhead_37 : decode t_X1_meetAhead.2.1 37 = .ok (.aload_n 0, 1) := by decide +kernel
theorem dX1_meetAhead_38 : decode t_X1_meetAhead.2.1 38 = .ok (.getfield 18, 3) := by decide +kernel
theorem gX1_meetAhead_38 : wm_gf t_X1_meetAhead 38 1 3 := ⟨_, _, _, 18, rfl, by decide, wd_299, dX1_meetAhead_38⟩
theorem dX1_meetAhead_41 : decode t_X1_meetAhead.2.1 41 = .ok (.aload_n 0, 1) := by decide +kernel
theorem dX1_meetAhead_42 : decode t_X1_meetAhead.2.1 42 = .ok (.getfield 11, 3) := by decide +kernel
theorem gX1_meetAhead_42 : wm_gf t_X1_meetAhead 42 1 0 := ⟨_, _, _, 11, rfl, by decide, wd_295, dX1_meetAhead_42⟩
theorem dX1_meetAhead_45 : decode t_X1_meetAhead.2.1 45 = .ok (.iload_n 1, 1) := by decide +kernel
theorem dX1_meetAhead_46 : decode t_X1_meetAhead.2.1 46 = .ok (.aaload, 1) := by decide +kernel
theorem dX1_meetAhead_47 : decode t_X1_meetAhead.2.1 47 = .ok (.iload_n 2, 1) := by decide +kernel
theorem dX1_meetAhead_48 : decode t_X1_meetAhead.2.1 48 = .ok (.iconst 4, 1) := by decide +kernel
theorem dX1_meetAhead_49 : decode t_X1_meetAhead.2.1 49 = .ok (.aload_n 0, 1) := by decide +kernel
theorem dX1_meetAhead_50 : decode t_X1_meetAhead.2.1 50 = .ok (.getfield 32, 3) := by decide +kernel
theorem gX1_meetAhead_50 : wm_gf t_X1_meetAhead 50 1 1 := ⟨_, _, _, 32, rfl, by decide, wd_297, dX1_meetAhead_50⟩
theorem dX1_meetAhead_53 : decode t_X1_meetAhead.2.1 53 = .ok (.iload_n 2, 1) := by decide +kernel
theorem dX1_meetAhead_54 : decode t_X1_meetAhead.2.1 54 = .ok (.invokevirtual 57, 3) := by decide +kernel
theorem iX1_meetAhead_54 : wm_iv t_X1_meetAhead t_X4_step 54 := ⟨57, wd_974, dX1_meetAhead_54⟩
theorem dX1_meetAhead_57 : decode t_X1_meetAhead.2.1 57 = .ok (.isub, 1) := by decide +kernel
theorem dX1_meetAhead_58 : decode t_X1_meetAhead.2.1 58 = .ok (.invokevirtual 61, 3) := by decide +kernel
theorem iX1_meetAhead_58 : wm_iv t_X1_meetAhead t_X3_joinMoved 58 := ⟨61, wd_975, dX1_meetAhead_58⟩
theorem dX1_meetAhead_61 : decode t_X1_meetAhead.2.1 61 = .ok (.iinc 2 1, 3) := by decide +kernel
theorem dX1_meetAhead_64 : decode t_X1_meetAhead.2.1 64 = .ok (.goto (-49), 3) := by decide +kernel
theorem dX1_meetAhead_67 : decode t_X1_meetAhead.2.1 67 = .ok (.aload_n 0, 1) := by decide +kernel
theorem dX1_meetAhead_68 : decode t_X1_meetAhead.2.1 68 = .ok (.getfield 11, 3) := by decide +kernel
theorem gX1_meetAhead_68 : wm_gf t_X1_meetAhead 68 1 0 := ⟨_, _, _, 11, rfl, by decide, wd_295, dX1_meetAhead_68⟩
theorem dX1_meetAhead_71 : decode t_X1_meetAhead.2.1 71 = .ok (.iload_n 1, 1) := by decide +kernel
theorem dX1_meetAhead_72 : decode t_X1_meetAhead.2.1 72 = .ok (.iconst 1, 1) := by decide +kernel
theorem dX1_meetAhead_73 : decode t_X1_meetAhead.2.1 73 = .ok (.isub, 1) := by decide +kernel
theorem dX1_meetAhead_74 : decode t_X1_meetAhead.2.1 74 = .ok (.aaload, 1) := by decide +kernel
theorem dX1_meetAhead_75 : decode t_X1_meetAhead.2.1 75 = .ok (.aload_n 0, 1) := by decide +kernel
theorem dX1_meetAhead_76 : decode t_X1_meetAhead.2.1 76 = .ok (.getfield 18, 3) := by decide +kernel
theorem gX1_meetAhead_76 : wm_gf t_X1_meetAhead 76 1 3 := ⟨_, _, _, 18, rfl, by decide, wd_299, dX1_meetAhead_76⟩
theorem dX1_meetAhead_79 : decode t_X1_meetAhead.2.1 79 = .ok (.invokevirtual 87, 3) := by decide +kernel
theorem iX1_meetAhead_79 : wm_iv t_X1_meetAhead t_X3_meet 79 := ⟨87, wd_971, dX1_meetAhead_79⟩
theorem dX1_meetAhead_82 : decode t_X1_meetAhead.2.1 82 = .ok (.return_, 1) := by decide +kernel
theorem wd_1034 : Cond.code yX1_turnedInto cX1_turnedInto 5 (some .int) ∈ lw_gd := List.mem_filter.mpr ⟨List.mem_of_getElem? (i := 1034) (by decide +kernel), by decide +kernel⟩
theorem wd_1032 : Cond.instanceMethod yX1_turnedInto ∈ lw_gd := List.mem_filter.mpr ⟨List.mem_of_getElem? (i := 1032) (by decide +kernel), by decide +kernel⟩
theorem wd_1033 : Cond.selects RX1 yX1_turnedInto yX1_turnedInto ∈ lw_gd := List.mem_filter.mpr ⟨List.mem_of_getElem? (i := 1033) (by decide +kernel), by decide +kernel⟩
theorem vX1_turnedInto : wm_calV t_X1_turnedInto 1 := ⟨⟨wd_1034, wd_86, by decide +kernel, by decide +kernel, by decide +kernel⟩, wd_1032, wd_1033⟩
theorem dX1_turnedInto_0 : decode t_X1_turnedInto.2.1 0 = .ok (.iconst 0, 1) := by decide +kernel
theorem dX1_turnedInto_1 : decode t_X1_turnedInto.2.1 1 = .ok (.istore_n 2, 1) := by decide +kernel
theorem dX1_turnedInto_2 : decode t_X1_turnedInto.2.1 2 = .ok (.iconst 0, 1) := by decide +kernel
theorem dX1_turnedInto_3 : decode t_X1_turnedInto.2.1 3 = .ok (.istore_n 3, 1) := by decide +kernel
theorem dX1_turnedInto_4 : decode t_X1_turnedInto.2.1 4 = .ok (.iload_n 3, 1) := by decide +kernel
theorem dX1_turnedInto_5 : decode t_X1_turnedInto.2.1 5 = .ok (.aload_n 0, 1) := by decide +kernel
theorem dX1_turnedInto_6 : decode t_X1_turnedInto.2.1 6 = .ok (.getfield 32, 3) := by decide +kernel
theorem gX1_turnedInto_6 : wm_gf t_X1_turnedInto 6 1 1 := ⟨_, _, _, 32, rfl, by decide, wd_297, dX1_turnedInto_6⟩
theorem dX1_turnedInto_9 : decode t_X1_turnedInto.2.1 9 = .ok (.invokevirtual 51, 3) := by decide +kernel
theorem iX1_turnedInto_9 : wm_iv t_X1_turnedInto t_X4_number 9 := ⟨51, wd_973, dX1_turnedInto_9⟩
theorem dX1_turnedInto_12 : decode t_X1_turnedInto.2.1 12 = .ok (.if_icmp .ge 53, 3) := by decide +kernel
theorem dX1_turnedInto_15 : decode t_X1_turnedInto.2.1 15 = .ok (.aload_n 0, 1) := by decide +kernel
theorem dX1_turnedInto_16 : decode t_X1_turnedInto.2.1 16 = .ok (.getfield 32, 3) := by decide +kernel
theorem gX1_turnedInto_16 : wm_gf t_X1_turnedInto 16 1 1 := ⟨_, _, _, 32, rfl, by decide, wd_297, dX1_turnedInto_16⟩
theorem dX1_turnedInto_19 : decode t_X1_turnedInto.2.1 19 = .ok (.iload_n 3, 1) := by decide +kernel
theorem dX1_turnedInto_20 : decode t_X1_turnedInto.2.1 20 = .ok (.invokevirtual 57, 3) := by decide +kernel
theorem iX1_turnedInto_20 : wm_iv t_X1_turnedInto t_X4_step 20 := ⟨57, wd_974, dX1_turnedInto_20⟩
theorem dX1_turnedInto_23 : decode t_X1_turnedInto.2.1 23 = .ok (.istore 4, 2) := by decide +kernel
theorem dX1_turnedInto_25 : decode t_X1_turnedInto.2.1 25 = .ok (.iload 4, 2) := by decide +kernel
theorem dX1_turnedInto_27 : decode t_X1_turnedInto.2.1 27 = .ok (.ifCond .le 32, 3) := by decide +kernel
theorem dX1_turnedInto_30 : decode t_X1_turnedInto.2.1 30 = .ok (.aload_n 0, 1) := by decide +kernel
theorem dX1_turnedInto_31 : decode t_X1_turnedInto.2.1 31 = .ok (.getfield 11, 3) := by decide +kernel
theorem gX1_turnedInto_31 : wm_gf t_X1_turnedInto 31 1 0 := ⟨_, _, _, 11, rfl, by decide, wd_295, dX1_turnedInto_31⟩
theorem dX1_turnedInto_34 : decode t_X1_turnedInto.2.1 34 = .ok (.iload_n 1, 1) := by decide +kernel
theorem dX1_turnedInto_35 : decode t_X1_turnedInto.2.1 35 = .ok (.aaload, 1) := by decide +kernel
theorem dX1_turnedInto_36 : decode t_X1_turnedInto.2.1 36 = .ok (.aload_n 0, 1) := by decide +kernel
theorem dX1_turnedInto_37 : decode t_X1_turnedInto.2.1 37 = .ok (.getfield 11, 3) := by decide +kernel
theorem gX1_turnedInto_37 : wm_gf t_X1_turnedInto 37 1 0 := ⟨_, _, _, 11, rfl, by decide, wd_295, dX1_turnedInto_37⟩
theorem dX1_turnedInto_40 : decode t_X1_turnedInto.2.1 40 = .ok (.iload_n 1, 1) := by decide +kernel
theorem dX1_turnedInto_41 : decode t_X1_turnedInto.2.1 41 = .ok (.iconst 1, 1) := by decide +kernel
theorem dX1_turnedInto_42 : decode t_X1_turnedInto.2.1 42 = .ok (.isub, 1) := by decide +kernel
theorem dX1_turnedInto_43 : decode t_X1_turnedInto.2.1 43 = .ok (.aaload, 1) := by decide +kernel
theorem dX1_turnedInto_44 : decode t_X1_turnedInto.2.1 44 = .ok (.iload_n 3, 1) := by decide +kernel
theorem dX1_turnedInto_45 : decode t_X1_turnedInto.2.1 45 = .ok (.iload 4, 2) := by decide +kernel
theorem dX1_turnedInto_47 : decode t_X1_turnedInto.2.1 47 = .ok (.invokevirtual 90, 3) := by decide +kernel
theorem wd_1035 : Cond.methodLink RX1 90 yX3_meetsMoved ∈ lw_gd := List.mem_filter.mpr ⟨List.mem_of_getElem? (i := 1035) (by decide +kernel), by decide +kernel⟩
theorem iX1_turnedInto_47 : wm_iv t_X1_turnedInto t_X3_meetsMoved 47 := ⟨90, wd_1035, dX1_turnedInto_47⟩
theorem dX1_turnedInto_50 : decode t_X1_turnedInto.2.1 50 = .ok (.ifCond .eq 9, 3) := by decide +kernel
theorem dX1_turnedInto_53 : decode t_X1_turnedInto.2.1 53 = .ok (.iload_n 2, 1) := by decide +kernel
theorem dX1_turnedInto_54 : decode t_X1_turnedInto.2.1 54 = .ok (.iconst 1, 1) := by decide +kernel
theorem dX1_turnedInto_55 : decode t_X1_turnedInto.2.1 55 = .ok (.iload_n 3, 1) := by decide +kernel
theorem dX1_turnedInto_56 : decode t_X1_turnedInto.2.1 56 = .ok (.ishl, 1) := by decide +kernel
theorem dX1_turnedInto_57 : decode t_X1_turnedInto.2.1 57 = .ok (.ior, 1) := by decide +kernel
theorem dX1_turnedInto_58 : decode t_X1_turnedInto.2.1 58 = .ok (.istore_n 2, 1) := by decide +kernel
theorem dX1_turnedInto_59 : decode t_X1_turnedInto.2.1 59 = .ok (.iinc 3 1, 3) := by decide +kernel
theorem dX1_turnedInto_62 : decode t_X1_turnedInto.2.1 62 = .ok (.goto (-58), 3) := by decide +kernel
theorem dX1_turnedInto_65 : decode t_X1_turnedInto.2.1 65 = .ok (.iload_n 2, 1) := by decide +kernel
theorem dX1_turnedInto_66 : decode t_X1_turnedInto.2.1 66 = .ok (.ireturn, 1) := by decide +kernel
theorem wd_984 : Cond.code yX1_allWays cX1_allWays 2 (some .int) ∈ lw_gd := List.mem_filter.mpr ⟨List.mem_of_getElem? (i := 984) (by decide +kernel), by decide +kernel⟩
theorem wd_982 : Cond.instanceMethod yX1_allWays ∈ lw_gd := List.mem_filter.mpr ⟨List.mem_of_getElem? (i := 982) (by decide +kernel), by decide +kernel⟩
theorem wd_983 : Cond.selects RX1 yX1_allWays yX1_allWays ∈ lw_gd := List.mem_filter.mpr ⟨List.mem_of_getElem? (i := 983) (by decide +kernel), by decide +kernel⟩
theorem vX1_allWays : wm_calV t_X1_allWays 1 := ⟨⟨wd_984, wd_86, by decide +kernel, by decide +kernel, by decide +kernel⟩, wd_982, wd_983⟩
theorem dX1_allWays_0 : decode t_X1_allWays.2.1 0 = .ok (.aload_n 0, 1) := by decide +kernel
theorem dX1_allWays_1 : decode t_X1_allWays.2.1 1 = .ok (.iload_n 1, 1) := by decide +kernel
theorem dX1_allWays_2 : decode t_X1_allWays.2.1 2 = .ok (.aload_n 0, 1) := by decide +kernel
theorem dX1_allWays_3 : decode t_X1_allWays.2.1 3 = .ok (.getfield 36, 3) := by decide +kernel
theorem gX1_allWays_3 : wm_gf t_X1_allWays 3 1 2 := ⟨_, _, _, 36, rfl, by decide, wd_298, dX1_allWays_3⟩
theorem dX1_allWays_6 : decode t_X1_allWays.2.1 6 = .ok (.iload_n 1, 1) := by decide +kernel
theorem dX1_allWays_7 : decode t_X1_allWays.2.1 7 = .ok (.invokevirtual 94, 3) := by decide +kernel
theorem wd_985 : Cond.methodLink RX1 94 yX2_lastTold ∈ lw_gd := List.mem_filter.mpr ⟨List.mem_of_getElem? (i := 985) (by decide +kernel), by decide +kernel⟩
theorem iX1_allWays_7 : wm_iv t_X1_allWays t_X2_lastTold 7 := ⟨94, wd_985, dX1_allWays_7⟩
theorem dX1_allWays_10 : decode t_X1_allWays.2.1 10 = .ok (.bipush (-9), 2) := by decide +kernel
theorem dX1_allWays_12 : decode t_X1_allWays.2.1 12 = .ok (.aload_n 0, 1) := by decide +kernel
theorem dX1_allWays_13 : decode t_X1_allWays.2.1 13 = .ok (.getfield 18, 3) := by decide +kernel
theorem gX1_allWays_13 : wm_gf t_X1_allWays 13 1 3 := ⟨_, _, _, 18, rfl, by decide, wd_299, dX1_allWays_13⟩
theorem dX1_allWays_16 : decode t_X1_allWays.2.1 16 = .ok (.invokevirtual 97, 3) := by decide +kernel
theorem wd_990 : Cond.methodLink RX1 97 yX1_waysTo ∈ lw_gd := List.mem_filter.mpr ⟨List.mem_of_getElem? (i := 990) (by decide +kernel), by decide +kernel⟩
theorem iX1_allWays_16 : wm_iv t_X1_allWays t_X1_waysTo 16 := ⟨97, wd_990, dX1_allWays_16⟩
theorem dX1_allWays_19 : decode t_X1_allWays.2.1 19 = .ok (.ireturn, 1) := by decide +kernel
theorem wd_1046 : Cond.code yX1_waysBy cX1_waysBy 4 (some .int) ∈ lw_gd := List.mem_filter.mpr ⟨List.mem_of_getElem? (i := 1046) (by decide +kernel), by decide +kernel⟩
theorem wd_1044 : Cond.instanceMethod yX1_waysBy ∈ lw_gd := List.mem_filter.mpr ⟨List.mem_of_getElem? (i := 1044) (by decide +kernel), by decide +kernel⟩
theorem wd_1045 : Cond.selects RX1 yX1_waysBy yX1_waysBy ∈ lw_gd := List.mem_filter.mpr ⟨List.mem_of_getElem? (i := 1045) (by decide +kernel), by decide +kernel⟩
theorem vX1_waysBy : wm_calV t_X1_waysBy 3 := ⟨⟨wd_1046, wd_86, by decide +kernel, by decide +kernel, by decide +kernel⟩, wd_1044, wd_1045⟩
theorem dX1_waysBy_0 : decode t_X1_waysBy.2.1 0 = .ok (.aload_n 0, 1) := by decide +kernel
theorem dX1_waysBy_1 : decode t_X1_waysBy.2.1 1 = .ok (.iload_n 1, 1) := by decide +kernel
theorem dX1_waysBy_2 : decode t_X1_waysBy.2.1 2 = .ok (.iload_n 2, 1) := by decide +kernel
theorem dX1_waysBy_3 : decode t_X1_waysBy.2.1 3 = .ok (.aload_n 0, 1) := by decide +kernel
theorem dX1_waysBy_4 : decode t_X1_waysBy.2.1 4 = .ok (.getfield 36, 3) := by decide +kernel
theorem gX1_waysBy_4 : wm_gf t_X1_waysBy 4 1 2 := ⟨_, _, _, 36, rfl, by decide, wd_298, dX1_waysBy_4⟩
theorem dX1_waysBy_7 : decode t_X1_waysBy.2.1 7 = .ok (.iload_n 1, 1) := by decide +kernel
theorem dX1_waysBy_8 : decode t_X1_waysBy.2.1 8 = .ok (.invokevirtual 94, 3) := by decide +kernel
theorem iX1_waysBy_8 : wm_iv t_X1_waysBy t_X2_lastTold 8 := ⟨94, wd_985, dX1_waysBy_8⟩
theorem dX1_waysBy_11 : decode t_X1_waysBy.2.1 11 = .ok (.invokestatic 101, 3) := by decide +kernel
theorem wd_1047 : Cond.methodLink RX1 101 Lib.Math.max.name ∈ lw_gd := List.mem_filter.mpr ⟨List.mem_of_getElem? (i := 1047) (by decide +kernel), by decide +kernel⟩
theorem iX1_waysBy_11 : wm_ij t_X1_waysBy Lib.Math.max.name 11 := ⟨101, wd_1047, dX1_waysBy_11⟩
theorem dX1_waysBy_14 : decode t_X1_waysBy.2.1 14 = .ok (.iload_n 2, 1) := by decide +kernel
theorem dX1_waysBy_15 : decode t_X1_waysBy.2.1 15 = .ok (.aload_n 3, 1) := by decide +kernel
theorem dX1_waysBy_16 : decode t_X1_waysBy.2.1 16 = .ok (.invokevirtual 97, 3) := by decide +kernel
theorem iX1_waysBy_16 : wm_iv t_X1_waysBy t_X1_waysTo 16 := ⟨97, wd_990, dX1_waysBy_16⟩
theorem dX1_waysBy_19 : decode t_X1_waysBy.2.1 19 = .ok (.ireturn, 1) := by decide +kernel
theorem wd_993 : Cond.code yX1_waysTo cX1_waysTo 9 (some .int) ∈ lw_gd := List.mem_filter.mpr ⟨List.mem_of_getElem? (i := 993) (by decide +kernel), by decide +kernel⟩
theorem wd_992 : Cond.instanceMethod yX1_waysTo ∈ lw_gd := List.mem_filter.mpr ⟨List.mem_of_getElem? (i := 992) (by decide +kernel), by decide +kernel⟩
theorem wd_29 : Cond.selects RX1 yX1_waysTo yX1_waysTo ∈ lw_gd := List.mem_filter.mpr ⟨List.mem_of_getElem? (i := 29) (by decide +kernel), by decide +kernel⟩
theorem vX1_waysTo : wm_calV t_X1_waysTo 4 := ⟨⟨wd_993, wd_86, by decide +kernel, by decide +kernel, by decide +kernel⟩, wd_992, wd_29⟩
theorem dX1_waysTo_0 : decode t_X1_waysTo.2.1 0 = .ok (.iconst 1, 1) := by decide +kernel
theorem dX1_waysTo_1 : decode t_X1_waysTo.2.1 1 = .ok (.iconst 2, 1) := by decide +kernel
theorem dX1_waysTo_2 : decode t_X1_waysTo.2.1 2 = .ok (.aload_n 0, 1) := by decide +kernel
theorem dX1_waysTo_3 : decode t_X1_waysTo.2.1 3 = .ok (.getfield 32, 3) := by decide +kernel
theorem gX1_waysTo_3 : wm_gf t_X1_waysTo 3 1 1 := ⟨_, _, _, 32, rfl, by decide, wd_297, dX1_waysTo_3⟩
theorem dX1_waysTo_6 : decode t_X1_waysTo.2.1 6 = .ok (.invokevirtual 51, 3) := by decide +kernel
theorem iX1_waysTo_6 : wm_iv t_X1_waysTo t_X4_number 6 := ⟨51, wd_973, dX1_waysTo_6⟩
theorem dX1_waysTo_9 : decode t_X1_waysTo.2.1 9 = .ok (.imul, 1) := by decide +kernel
theorem dX1_waysTo_10 : decode t_X1_waysTo.2.1 10 = .ok (.ishl, 1) := by decide +kernel
theorem dX1_waysTo_11 : decode t_X1_waysTo.2.1 11 = .ok (.istore 5, 2) := by decide +kernel
theorem dX1_waysTo_13 : decode t_X1_waysTo.2.1 13 = .ok (.aload_n 0, 1) := by decide +kernel
theorem dX1_waysTo_14 : decode t_X1_waysTo.2.1 14 = .ok (.getfield 26, 3) := by decide +kernel
theorem wd_301 : Cond.fieldLink RX1 26 "TurnedStones$Past" "ways" "[I" ∈ lw_gd := List.mem_filter.mpr ⟨List.mem_of_getElem? (i := 301) (by decide +kernel), by decide +kernel⟩
theorem gX1_waysTo_14 : wm_gf t_X1_waysTo 14 1 5 := ⟨_, _, _, 26, rfl, by decide, wd_301, dX1_waysTo_14⟩
theorem dX1_waysTo_17 : decode t_X1_waysTo.2.1 17 = .ok (.iconst 0, 1) := by decide +kernel
theorem dX1_waysTo_18 : decode t_X1_waysTo.2.1 18 = .ok (.iload 5, 2) := by decide +kernel
theorem dX1_waysTo_20 : decode t_X1_waysTo.2.1 20 = .ok (.iconst 0, 1) := by decide +kernel
theorem dX1_waysTo_21 : decode t_X1_waysTo.2.1 21 = .ok (.invokestatic 107, 3) := by decide +kernel
theorem wd_994 : Cond.methodLink RX1 107 yJ7_fill_fda19 ∈ lw_gd := List.mem_filter.mpr ⟨List.mem_of_getElem? (i := 994) (by decide +kernel), by decide +kernel⟩
theorem iX1_waysTo_21 : wm_is t_X1_waysTo t_J7_fill_fda19 21 := ⟨107, wd_994, dX1_waysTo_21⟩
theorem dX1_waysTo_24 : decode t_X1_waysTo.2.1 24 = .ok (.aload_n 0, 1) := by decide +kernel
theorem dX1_waysTo_25 : decode t_X1_waysTo.2.1 25 = .ok (.getfield 26, 3) := by decide +kernel
theorem gX1_waysTo_25 : wm_gf t_X1_waysTo 25 1 5 := ⟨_, _, _, 26, rfl, by decide, wd_301, dX1_waysTo_25⟩
theorem dX1_waysTo_28 : decode t_X1_waysTo.2.1 28 = .ok (.iconst 0, 1) := by decide +kernel
theorem dX1_waysTo_29 : decode t_X1_waysTo.2.1 29 = .ok (.iconst 1, 1) := by decide +kernel
theorem dX1_waysTo_30 : decode t_X1_waysTo.2.1 30 = .ok (.iastore, 1) := by decide +kernel
theorem dX1_waysTo_31 : decode t_X1_waysTo.2.1 31 = .ok (.iconst 0, 1) := by decide +kernel
theorem dX1_waysTo_32 : decode t_X1_waysTo.2.1 32 = .ok (.istore 6, 2) := by decide +kernel
theorem dX1_waysTo_34 : decode t_X1_waysTo.2.1 34 = .ok (.iload 6, 2) := by decide +kernel
theorem dX1_waysTo_36 : decode t_X1_waysTo.2.1 36 = .ok (.iload_n 2, 1) := by decide +kernel
theorem dX1_waysTo_37 : decode t_X1_waysTo.2.1 37 = .ok (.if_icmp .gt 47, 3) := by decide +kernel
theorem dX1_waysTo_40 : decode t_X1_waysTo.2.1 40 = .ok (.iload 6, 2) := by decide +kernel
theorem dX1_waysTo_42 : decode t_X1_waysTo.2.1 42 = .ok (.ifCond .le 9, 3) := by decide +kernel
theorem dX1_waysTo_45 : decode t_X1_waysTo.2.1 45 = .ok (.aload_n 0, 1) := by decide +kernel
theorem dX1_waysTo_46 : decode t_X1_waysTo.2.1 46 = .ok (.iload 5, 2) := by decide +kernel
theorem dX1_waysTo_48 : decode t_X1_waysTo.2.1 48 = .ok (.invokevirtual 113, 3) := by decide +kernel
theorem wd_995 : Cond.methodLink RX1 113 yX1_spread ∈ lw_gd := List.mem_filter.mpr ⟨List.mem_of_getElem? (i := 995) (by decide +kernel), by decide +kernel⟩
theorem iX1_waysTo_48 : wm_iv t_X1_waysTo t_X1_spread 48 := ⟨113, wd_995, dX1_waysTo_48⟩
theorem dX1_waysTo_51 : decode t_X1_waysTo.2.1 51 = .ok (.aload_n 0, 1) := by decide +kernel
theorem dX1_waysTo_52 : decode t_X1_waysTo.2.1 52 = .ok (.aload_n 0, 1) := by decide +kernel
theorem dX1_waysTo_53 : decode t_X1_waysTo.2.1 53 = .ok (.getfield 11, 3) := by decide +kernel
theorem gX1_waysTo_53 : wm_gf t_X1_waysTo 53 1 0 := ⟨_, _, _, 11, rfl, by decide, wd_295, dX1_waysTo_53⟩
theorem dX1_waysTo_56 : decode t_X1_waysTo.2.1 56 = .ok (.iload 6, 2) := by decide +kernel
theorem dX1_waysTo_58 : decode t_X1_waysTo.2.1 58 = .ok (.aaload, 1) := by decide +kernel
theorem dX1_waysTo_59 : decode t_X1_waysTo.2.1 59 = .ok (.iload 5, 2) := by decide +kernel
theorem dX1_waysTo_61 : decode t_X1_waysTo.2.1 61 = .ok (.invokevirtual 116, 3) := by decide +kernel
theorem wd_1005 : Cond.methodLink RX1 116 yX1_keepOnly ∈ lw_gd := List.mem_filter.mpr ⟨List.mem_of_getElem? (i := 1005) (by decide +kernel), by decide +kernel⟩
theorem iX1_waysTo_61 : wm_iv t_X1_waysTo t_X1_keepOnly 61 := ⟨116, wd_1005, dX1_waysTo_61⟩
theorem dX1_waysTo_64 : decode t_X1_waysTo.2.1 64 = .ok (.iload 6, 2) := by decide +kernel
theorem dX1_waysTo_66 : decode t_X1_waysTo.2.1 66 = .ok (.iload_n 3, 1) := by decide +kernel
theorem dX1_waysTo_67 : decode t_X1_waysTo.2.1 67 = .ok (.if_icmp .ne 11, 3) := by decide +kernel
theorem dX1_waysTo_70 : decode t_X1_waysTo.2.1 70 = .ok (.aload_n 0, 1) := by decide +kernel
theorem dX1_waysTo_71 : decode t_X1_waysTo.2.1 71 = .ok (.aload 4, 2) := by decide +kernel
theorem dX1_waysTo_73 : decode t_X1_waysTo.2.1 73 = .ok (.iload 5, 2) := by decide +kernel
theorem dX1_waysTo_75 : decode t_X1_waysTo.2.1 75 = .ok (.invokevirtual 116, 3) := by decide +kernel
theorem iX1_waysTo_75 : wm_iv t_X1_waysTo t_X1_keepOnly 75 := ⟨116, wd_1005, dX1_waysTo_75⟩
theorem dX1_waysTo_78 : decode t_X1_waysTo.2.1 78 = .ok (.iinc 6 1, 3) := by decide +kernel
theorem dX1_waysTo_81 : decode t_X1_waysTo.2.1 81 = .ok (.goto (-47), 3) := by decide +kernel
theorem dX1_waysTo_84 : decode t_X1_waysTo.2.1 84 = .ok (.iconst 0, 1) := by decide +kernel
theorem dX1_waysTo_85 : decode t_X1_waysTo.2.1 85 = .ok (.istore 6, 2) := by decide +kernel
theorem dX1_waysTo_87 : decode t_X1_waysTo.2.1 87 = .ok (.iconst 0, 1) := by decide +kernel
theorem dX1_waysTo_88 : decode t_X1_waysTo.2.1 88 = .ok (.istore 7, 2) := by decide +kernel
theorem dX1_waysTo_90 : decode t_X1_waysTo.2.1 90 = .ok (.iload 7, 2) := by decide +kernel
theorem dX1_waysTo_92 : decode t_X1_waysTo.2.1 92 = .ok (.iload 5, 2) := by decide +kernel
theorem dX1_waysTo_94 : decode t_X1_waysTo.2.1 94 = .ok (.if_icmp .ge 21, 3) := by decide +kernel
theorem dX1_waysTo_97 : decode t_X1_waysTo.2.1 97 = .ok (.iload 6, 2) := by decide +kernel
theorem dX1_waysTo_99 : decode t_X1_waysTo.2.1 99 = .ok (.aload_n 0, 1) := by decide +kernel
theorem dX1_waysTo_100 : decode t_X1_waysTo.2.1 100 = .ok (.getfield 26, 3) := by decide +kernel
theorem gX1_waysTo_100 : wm_gf t_X1_waysTo 100 1 5 := ⟨_, _, _, 26, rfl, by decide, wd_301, dX1_waysTo_100⟩
theorem dX1_waysTo_103 : decode t_X1_waysTo.2.1 103 = .ok (.iload 7, 2) := by decide +kernel
theorem dX1_waysTo_105 : decode t_X1_waysTo.2.1 105 = .ok (.iaload, 1) := by decide +kernel
theorem dX1_waysTo_106 : decode t_X1_waysTo.2.1 106 = .ok (.iadd, 1) := by decide +kernel
theorem dX1_waysTo_107 : decode t_X1_waysTo.2.1 107 = .ok (.istore 6, 2) := by decide +kernel
theorem dX1_waysTo_109 : decode t_X1_waysTo.2.1 109 = .ok (.iinc 7 1, 3) := by decide +kernel
theorem dX1_waysTo_112 : decode t_X1_waysTo.2.1 112 = .ok (.goto (-22), 3) := by decide +kernel
theorem dX1_waysTo_115 : decode t_X1_waysTo.2.1 115 = .ok (.iconst 1, 1) := by decide +kernel
theorem dX1_waysTo_116 : decode t_X1_waysTo.2.1 116 = .ok (.aload_n 0, 1) := by decide +kernel
theorem dX1_waysTo_117 : decode t_X1_waysTo.2.1 117 = .ok (.getfield 32, 3) := by decide +kernel
theorem gX1_waysTo_117 : wm_gf t_X1_waysTo 117 1 1 := ⟨_, _, _, 32, rfl, by decide, wd_297, dX1_waysTo_117⟩
theorem dX1_waysTo_120 : decode t_X1_waysTo.2.1 120 = .ok (.invokevirtual 51, 3) := by decide +kernel
theorem iX1_waysTo_120 : wm_iv t_X1_waysTo t_X4_number 120 := ⟨51, wd_973, dX1_waysTo_120⟩
theorem dX1_waysTo_123 : decode t_X1_waysTo.2.1 123 = .ok (.iadd, 1) := by decide +kernel
theorem dX1_waysTo_124 : decode t_X1_waysTo.2.1 124 = .ok (.aload_n 0, 1) := by decide +kernel
theorem dX1_waysTo_125 : decode t_X1_waysTo.2.1 125 = .ok (.getfield 32, 3) := by decide +kernel
theorem gX1_waysTo_125 : wm_gf t_X1_waysTo 125 1 1 := ⟨_, _, _, 32, rfl, by decide, wd_297, dX1_waysTo_125⟩
theorem dX1_waysTo_128 : decode t_X1_waysTo.2.1 128 = .ok (.iconst 2, 1) := by decide +kernel
theorem dX1_waysTo_129 : decode t_X1_waysTo.2.1 129 = .ok (.invokevirtual 120, 3) := by decide +kernel
theorem wd_1010 : Cond.methodLink RX1 120 yX4_numberOf ∈ lw_gd := List.mem_filter.mpr ⟨List.mem_of_getElem? (i := 1010) (by decide +kernel), by decide +kernel⟩
theorem iX1_waysTo_129 : wm_iv t_X1_waysTo t_X4_numberOf 129 := ⟨120, wd_1010, dX1_waysTo_129⟩
theorem dX1_waysTo_132 : decode t_X1_waysTo.2.1 132 = .ok (.isub, 1) := by decide +kernel
theorem dX1_waysTo_133 : decode t_X1_waysTo.2.1 133 = .ok (.istore 7, 2) := by decide +kernel
theorem dX1_waysTo_135 : decode t_X1_waysTo.2.1 135 = .ok (.iload_n 2, 1) := by decide +kernel
theorem dX1_waysTo_136 : decode t_X1_waysTo.2.1 136 = .ok (.istore 8, 2) := by decide +kernel
theorem dX1_waysTo_138 : decode t_X1_waysTo.2.1 138 = .ok (.iload 8, 2) := by decide +kernel
theorem dX1_waysTo_140 : decode t_X1_waysTo.2.1 140 = .ok (.iload_n 1, 1) := by decide +kernel
theorem dX1_waysTo_141 : decode t_X1_waysTo.2.1 141 = .ok (.if_icmp .ge 16, 3) := by decide +kernel
theorem dX1_waysTo_144 : decode t_X1_waysTo.2.1 144 = .ok (.iload 6, 2) := by decide +kernel
theorem dX1_waysTo_146 : decode t_X1_waysTo.2.1 146 = .ok (.iload 7, 2) := by decide +kernel
theorem dX1_waysTo_148 : decode t_X1_waysTo.2.1 148 = .ok (.imul, 1) := by decide +kernel
theorem dX1_waysTo_149 : decode t_X1_waysTo.2.1 149 = .ok (.istore 6, 2) := by decide +kernel
theorem dX1_waysTo_151 : decode t_X1_waysTo.2.1 151 = .ok (.iinc 8 1, 3) := by decide +kernel
theorem dX1_waysTo_154 : decode t_X1_waysTo.2.1 154 = .ok (.goto (-16), 3) := by decide +kernel
theorem dX1_waysTo_157 : decode t_X1_waysTo.2.1 157 = .ok (.iload 6, 2) := by decide +kernel
theorem dX1_waysTo_159 : decode t_X1_waysTo.2.1 159 = .ok (.ireturn, 1) := by decide +kernel
theorem wd_998 : Cond.code yX1_spread cX1_spread 3 (none) ∈ lw_gd := List.mem_filter.mpr ⟨List.mem_of_getElem? (i := 998) (by decide +kernel), by decide +kernel⟩
theorem wd_997 : Cond.instanceMethod yX1_spread ∈ lw_gd := List.mem_filter.mpr ⟨List.mem_of_getElem? (i := 997) (by decide +kernel), by decide +kernel⟩
theorem wd_30 : Cond.selects RX1 yX1_spread yX1_spread ∈ lw_gd := List.mem_filter.mpr ⟨List.mem_of_getElem? (i := 30) (by decide +kernel), by decide +kernel⟩
theorem vX1_spread : wm_calV t_X1_spread 1 := ⟨⟨wd_998, wd_86, by decide +kernel, by decide +kernel, by decide +kernel⟩, wd_997, wd_30⟩
theorem dX1_spread_0 : decode t_X1_spread.2.1 0 = .ok (.aload_n 0, 1) := by decide +kernel
theorem dX1_spread_1 : decode t_X1_spread.2.1 1 = .ok (.getfield 26, 3) := by decide +kernel
theorem gX1_spread_1 : wm_gf t_X1_spread 1 1 5 := ⟨_, _, _, 26, rfl, by decide, wd_301, dX1_spread_1⟩
theorem dX1_spread_4 : decode t_X1_spread.2.1 4 = .ok (.iconst 0, 1) := by decide +kernel
theorem dX1_spread_5 : decode t_X1_spread.2.1 5 = .ok (.aload_n 0, 1) := by decide +kernel
theorem dX1_spread_6 : decode t_X1_spread.2.1 6 = .ok (.getfield 29, 3) := by decide +kernel
theorem wd_302 : Cond.fieldLink RX1 29 "TurnedStones$Past" "nextWays" "[I" ∈ lw_gd := List.mem_filter.mpr ⟨List.mem_of_getElem? (i := 302) (by decide +kernel), by decide +kernel⟩
theorem gX1_spread_6 : wm_gf t_X1_spread 6 1 6 := ⟨_, _, _, 29, rfl, by decide, wd_302, dX1_spread_6⟩
theorem dX1_spread_9 : decode t_X1_spread.2.1 9 = .ok (.iconst 0, 1) := by decide +kernel
theorem dX1_spread_10 : decode t_X1_spread.2.1 10 = .ok (.iload_n 1, 1) := by decide +kernel
theorem dX1_spread_11 : decode t_X1_spread.2.1 11 = .ok (.invokestatic 123, 3) := by decide +kernel
theorem wd_999 : Cond.methodLink RX1 123 arraycopyName ∈ lw_gd := List.mem_filter.mpr ⟨List.mem_of_getElem? (i := 999) (by decide +kernel), by decide +kernel⟩
theorem iX1_spread_11 : wm_ij t_X1_spread arraycopyName 11 := ⟨123, wd_999, dX1_spread_11⟩
theorem dX1_spread_14 : decode t_X1_spread.2.1 14 = .ok (.iconst 0, 1) := by decide +kernel
theorem dX1_spread_15 : decode t_X1_spread.2.1 15 = .ok (.istore_n 2, 1) := by decide +kernel
theorem dX1_spread_16 : decode t_X1_spread.2.1 16 = .ok (.iload_n 2, 1) := by decide +kernel
theorem dX1_spread_17 : decode t_X1_spread.2.1 17 = .ok (.aload_n 0, 1) := by decide +kernel
theorem dX1_spread_18 : decode t_X1_spread.2.1 18 = .ok (.getfield 32, 3) := by decide +kernel
theorem gX1_spread_18 : wm_gf t_X1_spread 18 1 1 := ⟨_, _, _, 32, rfl, by decide, wd_297, dX1_spread_18⟩
theorem dX1_spread_21 : decode t_X1_spread.2.1 21 = .ok (.invokevirtual 51, 3) := by decide +kernel
theorem iX1_spread_21 : wm_iv t_X1_spread t_X4_number 21 := ⟨51, wd_973, dX1_spread_21⟩
theorem dX1_spread_24 : decode t_X1_spread.2.1 24 = .ok (.if_icmp .ge 34, 3) := by decide +kernel
theorem dX1_spread_27 : decode t_X1_spread.2.1 27 = .ok (.aload_n 0, 1) := by decide +kernel
theorem dX1_spread_28 : decode t_X1_spread.2.1 28 = .ok (.getfield 32, 3) := by decide +kernel
theorem gX1_spread_28 : wm_gf t_X1_spread 28 1 1 := ⟨_, _, _, 32, rfl, by decide, wd_297, dX1_spread_28⟩
theorem dX1_spread_31 : decode t_X1_spread.2.1 31 = .ok (.iload_n 2, 1) := by decide +kernel
theorem dX1_spread_32 : decode t_X1_spread.2.1 32 = .ok (.invokevirtual 57, 3) := by decide +kernel
theorem iX1_spread_32 : wm_iv t_X1_spread t_X4_step 32 := ⟨57, wd_974, dX1_spread_32⟩
theorem dX1_spread_35 : decode t_X1_spread.2.1 35 = .ok (.ifCond .le 17, 3) := by decide +kernel
theorem dX1_spread_38 : decode t_X1_spread.2.1 38 = .ok (.aload_n 0, 1) := by decide +kernel
theorem dX1_spread_39 : decode t_X1_spread.2.1 39 = .ok (.iload_n 1, 1) := by decide +kernel
theorem dX1_spread_40 : decode t_X1_spread.2.1 40 = .ok (.iload_n 2, 1) := by decide +kernel
theorem dX1_spread_41 : decode t_X1_spread.2.1 41 = .ok (.aload_n 0, 1) := by decide +kernel
theorem dX1_spread_42 : decode t_X1_spread.2.1 42 = .ok (.getfield 32, 3) := by decide +kernel
theorem gX1_spread_42 : wm_gf t_X1_spread 42 1 1 := ⟨_, _, _, 32, rfl, by decide, wd_297, dX1_spread_42⟩
theorem dX1_spread_45 : decode t_X1_spread.2.1 45 = .ok (.iload_n 2, 1) := by decide +kernel
theorem dX1_spread_46 : decode t_X1_spread.2.1 46 = .ok (.invokevirtual 57, 3) := by decide +kernel
theorem iX1_spread_46 : wm_iv t_X1_spread t_X4_step 46 := ⟨57, wd_974, dX1_spread_46⟩
theorem dX1_spread_49 : decode t_X1_spread.2.1 49 = .ok (.invokevirtual 129, 3) := by decide +kernel
theorem wd_1000 : Cond.methodLink RX1 129 yX1_spreadTurned ∈ lw_gd := List.mem_filter.mpr ⟨List.mem_of_getElem? (i := 1000) (by decide +kernel), by decide +kernel⟩
theorem iX1_spread_49 : wm_iv t_X1_spread t_X1_spreadTurned 49 := ⟨129, wd_1000, dX1_spread_49⟩
theorem dX1_spread_52 : decode t_X1_spread.2.1 52 = .ok (.iinc 2 1, 3) := by decide +kernel
theorem dX1_spread_55 : decode t_X1_spread.2.1 55 = .ok (.goto (-39), 3) := by decide +kernel
theorem dX1_spread_58 : decode t_X1_spread.2.1 58 = .ok (.aload_n 0, 1) := by decide +kernel
theorem dX1_spread_59 : decode t_X1_spread.2.1 59 = .ok (.getfield 26, 3) := by decide +kernel
theorem gX1_spread_59 : wm_gf t_X1_spread 59 1 5 := ⟨_, _, _, 26, rfl, by decide, wd_301, dX1_spread_59⟩
theorem dX1_spread_62 : decode t_X1_spread.2.1 62 = .ok (.astore_n 2, 1) := by decide +kernel
theorem dX1_spread_63 : decode t_X1_spread.2.1 63 = .ok (.aload_n 0, 1) := by decide +kernel
theorem dX1_spread_64 : decode t_X1_spread.2.1 64 = .ok (.aload_n 0, 1) := by decide +kernel
theorem dX1_spread_65 : decode t_X1_spread.2.1 65 = .ok (.getfield 29, 3) := by decide +kernel
theorem gX1_spread_65 : wm_gf t_X1_spread 65 1 6 := ⟨_, _, _, 29, rfl, by decide, wd_302, dX1_spread_65⟩
theorem dX1_spread_68 : decode t_X1_spread.2.1 68 = .ok (.putfield 26, 3) := by decide +kernel
theorem gX1_spread_68 : wm_pf t_X1_spread 68 1 5 (.array .int) := ⟨_, _, _, 26, rfl, by decide, wd_301, dX1_spread_68, rfl, by decide +kernel⟩
theorem dX1_spread_71 : decode t_X1_spread.2.1 71 = .ok (.aload_n 0, 1) := by decide +kernel
theorem dX1_spread_72 : decode t_X1_spread.2.1 72 = .ok (.aload_n 2, 1) := by decide +kernel
theorem dX1_spread_73 : decode t_X1_spread.2.1 73 = .ok (.putfield 29, 3) := by decide +kernel
theorem gX1_spread_73 : wm_pf t_X1_spread 73 1 6 (.array .int) := ⟨_, _, _, 29, rfl, by decide, wd_302, dX1_spread_73, rfl, by decide +kernel⟩
theorem dX1_spread_76 : decode t_X1_spread.2.1 76 = .ok (.return_, 1) := by decide +kernel
theorem wd_1003 : Cond.code yX1_spreadTurned cX1_spreadTurned 5 (none) ∈ lw_gd := List.mem_filter.mpr ⟨List.mem_of_getElem? (i := 1003) (by decide +kernel), by decide +kernel⟩
theorem wd_1002 : Cond.instanceMethod yX1_spreadTurned ∈ lw_gd := List.mem_filter.mpr ⟨List.mem_of_getElem? (i := 1002) (by decide +kernel), by decide +kernel⟩
theorem wd_31 : Cond.selects RX1 yX1_spreadTurned yX1_spreadTurned ∈ lw_gd := List.mem_filter.mpr ⟨List.mem_of_getElem? (i := 31) (by decide +kernel), by decide +kernel⟩
theorem vX1_spreadTurned : wm_calV t_X1_spreadTurned 3 := ⟨⟨wd_1003, wd_86, by decide +kernel, by decide +kernel, by decide +kernel⟩, wd_1002, wd_31⟩
theorem dX1_spreadTurned_0 : decode t_X1_spreadTurned.2.1 0 = .ok (.iconst 0, 1) := by decide +kernel
theorem dX1_spreadTurned_1 : decode t_X1_spreadTurned.2.1 1 = .ok (.istore 4, 2) := by decide +kernel
theorem dX1_spreadTurned_3 : decode t_X1_spreadTurned.2.1 3 = .ok (.iload 4, 2) := by decide +kernel
theorem dX1_spreadTurned_5 : decode t_X1_spreadTurned.2.1 5 = .ok (.iload_n 1, 1) := by decide +kernel
theorem dX1_spreadTurned_6 : decode t_X1_spreadTurned.2.1 6 = .ok (.if_icmp .ge 41, 3) := by decide +kernel
theorem dX1_spreadTurned_9 : decode t_X1_spreadTurned.2.1 9 = .ok (.aload_n 0, 1) := by decide +kernel
theorem dX1_spreadTurned_10 : decode t_X1_spreadTurned.2.1 10 = .ok (.getfield 26, 3) := by decide +kernel
theorem gX1_spreadTurned_10 : wm_gf t_X1_spreadTurned 10 1 5 := ⟨_, _, _, 26, rfl, by decide, wd_301, dX1_spreadTurned_10⟩
theorem dX1_spreadTurned_13 : decode t_X1_spreadTurned.2.1 13 = .ok (.iload 4, 2) := by decide +kernel
theorem dX1_spreadTurned_15 : decode t_X1_spreadTurned.2.1 15 = .ok (.iaload, 1) := by decide +kernel
theorem dX1_spreadTurned_16 : decode t_X1_spreadTurned.2.1 16 = .ok (.ifCond .eq 25, 3) := by decide +kernel
theorem dX1_spreadTurned_19 : decode t_X1_spreadTurned.2.1 19 = .ok (.aload_n 0, 1) := by decide +kernel
theorem dX1_spreadTurned_20 : decode t_X1_spreadTurned.2.1 20 = .ok (.getfield 29, 3) := by decide +kernel
theorem gX1_spreadTurned_20 : wm_gf t_X1_spreadTurned 20 1 6 := ⟨_, _, _, 29, rfl, by decide, wd_302, dX1_spreadTurned_20⟩
theorem dX1_spreadTurned_23 : decode t_X1_spreadTurned.2.1 23 = .ok (.iload 4, 2) := by decide +kernel
theorem dX1_spreadTurned_25 : decode t_X1_spreadTurned.2.1 25 = .ok (.iload_n 2, 1) := by decide +kernel
theorem dX1_spreadTurned_26 : decode t_X1_spreadTurned.2.1 26 = .ok (.iload_n 3, 1) := by decide +kernel
theorem dX1_spreadTurned_27 : decode t_X1_spreadTurned.2.1 27 = .ok (.invokestatic 133, 3) := by decide +kernel
theorem wd_1004 : Cond.methodLink RX1 133 yX4_movedBy ∈ lw_gd := List.mem_filter.mpr ⟨List.mem_of_getElem? (i := 1004) (by decide +kernel), by decide +kernel⟩
theorem iX1_spreadTurned_27 : wm_is t_X1_spreadTurned t_X4_movedBy 27 := ⟨133, wd_1004, dX1_spreadTurned_27⟩
theorem dX1_spreadTurned_30 : decode t_X1_spreadTurned.2.1 30 = .ok (.dup2, 1) := by decide +kernel
theorem dX1_spreadTurned_31 : decode t_X1_spreadTurned.2.1 31 = .ok (.iaload, 1) := by decide +kernel
theorem dX1_spreadTurned_32 : decode t_X1_spreadTurned.2.1 32 = .ok (.aload_n 0, 1) := by decide +kernel
theorem dX1_spreadTurned_33 : decode t_X1_spreadTurned.2.1 33 = .ok (.getfield 26, 3) := by decide +kernel
theorem gX1_spreadTurned_33 : wm_gf t_X1_spreadTurned 33 1 5 := ⟨_, _, _, 26, rfl, by decide, wd_301, dX1_spreadTurned_33⟩
theorem dX1_spreadTurned_36 : decode t_X1_spreadTurned.2.1 36 = .ok (.iload 4, 2) := by decide +kernel
theorem dX1_spreadTurned_38 : decode t_X1_spreadTurned.2.1 38 = .ok (.iaload, 1) := by decide +kernel
theorem dX1_spreadTurned_39 : decode t_X1_spreadTurned.2.1 39 = .ok (.iadd, 1) := by decide +kernel
theorem dX1_spreadTurned_40 : decode t_X1_spreadTurned.2.1 40 = .ok (.iastore, 1) := by decide +kernel
theorem dX1_spreadTurned_41 : decode t_X1_spreadTurned.2.1 41 = .ok (.iinc 4 1, 3) := by decide +kernel
theorem dX1_spreadTurned_44 : decode t_X1_spreadTurned.2.1 44 = .ok (.goto (-41), 3) := by decide +kernel
theorem dX1_spreadTurned_47 : decode t_X1_spreadTurned.2.1 47 = .ok (.return_, 1) := by decide +kernel
theorem wd_1008 : Cond.code yX1_keepOnly cX1_keepOnly 4 (none) ∈ lw_gd := List.mem_filter.mpr ⟨List.mem_of_getElem? (i := 1008) (by decide +kernel), by decide +kernel⟩
theorem wd_1007 : Cond.instanceMethod yX1_keepOnly ∈ lw_gd := List.mem_filter.mpr ⟨List.mem_of_getElem? (i := 1007) (by decide +kernel), by decide +kernel⟩
theorem wd_32 : Cond.selects RX1 yX1_keepOnly yX1_keepOnly ∈ lw_gd := List.mem_filter.mpr ⟨List.mem_of_getElem? (i := 32) (by decide +kernel), by decide +kernel⟩
theorem vX1_keepOnly : wm_calV t_X1_keepOnly 2 := ⟨⟨wd_1008, wd_86, by decide +kernel, by decide +kernel, by decide +kernel⟩, wd_1007, wd_32⟩
theorem dX1_keepOnly_0 : decode t_X1_keepOnly.2.1 0 = .ok (.iconst 0, 1) := by decide +kernel
theorem dX1_keepOnly_1 : decode t_X1_keepOnly.2.1 1 = .ok (.istore_n 3, 1) := by decide +kernel
theorem dX1_keepOnly_2 : decode t_X1_keepOnly.2.1 2 = .ok (.iload_n 3, 1) := by decide +kernel
theorem dX1_keepOnly_3 : decode t_X1_keepOnly.2.1 3 = .ok (.iload_n 2, 1) := by decide +kernel
theorem dX1_keepOnly_4 : decode t_X1_keepOnly.2.1 4 = .ok (.if_icmp .ge 33, 3) := by decide +kernel
theorem dX1_keepOnly_7 : decode t_X1_keepOnly.2.1 7 = .ok (.aload_n 0, 1) := by decide +kernel
theorem dX1_keepOnly_8 : decode t_X1_keepOnly.2.1 8 = .ok (.getfield 26, 3) := by decide +kernel
theorem gX1_keepOnly_8 : wm_gf t_X1_keepOnly 8 1 5 := ⟨_, _, _, 26, rfl, by decide, wd_301, dX1_keepOnly_8⟩
theorem dX1_keepOnly_11 : decode t_X1_keepOnly.2.1 11 = .ok (.iload_n 3, 1) := by decide +kernel
theorem dX1_keepOnly_12 : decode t_X1_keepOnly.2.1 12 = .ok (.iaload, 1) := by decide +kernel
theorem dX1_keepOnly_13 : decode t_X1_keepOnly.2.1 13 = .ok (.ifCond .eq 18, 3) := by decide +kernel
theorem dX1_keepOnly_16 : decode t_X1_keepOnly.2.1 16 = .ok (.aload_n 1, 1) := by decide +kernel
theorem dX1_keepOnly_17 : decode t_X1_keepOnly.2.1 17 = .ok (.iload_n 3, 1) := by decide +kernel
theorem dX1_keepOnly_18 : decode t_X1_keepOnly.2.1 18 = .ok (.invokevirtual 137, 3) := by decide +kernel
theorem wd_1009 : Cond.methodLink RX1 137 yX3_has ∈ lw_gd := List.mem_filter.mpr ⟨List.mem_of_getElem? (i := 1009) (by decide +kernel), by decide +kernel⟩
theorem iX1_keepOnly_18 : wm_iv t_X1_keepOnly t_X3_has 18 := ⟨137, wd_1009, dX1_keepOnly_18⟩
theorem dX1_keepOnly_21 : decode t_X1_keepOnly.2.1 21 = .ok (.ifCond .ne 10, 3) := by decide +kernel
theorem dX1_keepOnly_24 : decode t_X1_keepOnly.2.1 24 = .ok (.aload_n 0, 1) := by decide +kernel
theorem dX1_keepOnly_25 : decode t_X1_keepOnly.2.1 25 = .ok (.getfield 26, 3) := by decide +kernel
theorem gX1_keepOnly_25 : wm_gf t_X1_keepOnly 25 1 5 := ⟨_, _, _, 26, rfl, by decide, wd_301, dX1_keepOnly_25⟩
theorem dX1_keepOnly_28 : decode t_X1_keepOnly.2.1 28 = .ok (.iload_n 3, 1) := by decide +kernel
theorem dX1_keepOnly_29 : decode t_X1_keepOnly.2.1 29 = .ok (.iconst 0, 1) := by decide +kernel
theorem dX1_keepOnly_30 : decode t_X1_keepOnly.2.1 30 = .ok (.iastore, 1) := by decide +kernel
theorem dX1_keepOnly_31 : decode t_X1_keepOnly.2.1 31 = .ok (.iinc 3 1, 3) := by decide +kernel
theorem dX1_keepOnly_34 : decode t_X1_keepOnly.2.1 34 = .ok (.goto (-32), 3) := by decide +kernel
theorem dX1_keepOnly_37 : decode t_X1_keepOnly.2.1 37 = .ok (.return_, 1) := by decide +kernel
