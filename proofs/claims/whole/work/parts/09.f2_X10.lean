theorem wd_1416 : Cond.code yX10_readIn cX10_readIn 7 (some .int) ∈ lw_gd := List.mem_filter.mpr ⟨List.mem_of_getElem? (i := 1416) (by decide +kernel), by decide +kernel⟩
theorem wd_1415 : Cond.instanceMethod yX10_readIn ∈ lw_gd := List.mem_filter.mpr ⟨List.mem_of_getElem? (i := 1415) (by decide +kernel), by decide +kernel⟩
theorem wd_52 : Cond.selects RX10 yX10_readIn yX10_readIn ∈ lw_gd := List.mem_filter.mpr ⟨List.mem_of_getElem? (i := 52) (by decide +kernel), by decide +kernel⟩
theorem vX10_readIn : wm_calV t_X10_readIn 3 := ⟨⟨wd_1416, wd_88, by decide +kernel, by decide +kernel, by decide +kernel⟩, wd_1415, wd_52⟩
theorem dX10_readIn_0 : decode t_X10_readIn.2.1 0 = .ok (.iconst 0, 1) := by decide +kernel
theorem dX10_readIn_1 : decode t_X10_readIn.2.1 1 = .ok (.istore 4, 2) := by decide +kernel
theorem dX10_readIn_3 : decode t_X10_readIn.2.1 3 = .ok (.iconst 0, 1) := by decide +kernel
theorem dX10_readIn_4 : decode t_X10_readIn.2.1 4 = .ok (.istore 5, 2) := by decide +kernel
theorem dX10_readIn_6 : decode t_X10_readIn.2.1 6 = .ok (.iload 5, 2) := by decide +kernel
theorem dX10_readIn_8 : decode t_X10_readIn.2.1 8 = .ok (.aload_n 0, 1) := by decide +kernel
theorem dX10_readIn_9 : decode t_X10_readIn.2.1 9 = .ok (.getfield 47, 3) := by decide +kernel
theorem gX10_readIn_9 : wm_gf t_X10_readIn 9 10 25 := ⟨_, _, _, 47, rfl, by decide, wd_1139, dX10_readIn_9⟩
theorem dX10_readIn_12 : decode t_X10_readIn.2.1 12 = .ok (.iload_n 1, 1) := by decide +kernel
theorem dX10_readIn_13 : decode t_X10_readIn.2.1 13 = .ok (.iaload, 1) := by decide +kernel
theorem dX10_readIn_14 : decode t_X10_readIn.2.1 14 = .ok (.iadd, 1) := by decide +kernel
theorem dX10_readIn_15 : decode t_X10_readIn.2.1 15 = .ok (.aload_n 0, 1) := by decide +kernel
theorem dX10_readIn_16 : decode t_X10_readIn.2.1 16 = .ok (.iload_n 2, 1) := by decide +kernel
theorem dX10_readIn_17 : decode t_X10_readIn.2.1 17 = .ok (.invokevirtual 196, 3) := by decide +kernel
theorem iX10_readIn_17 : wm_iv t_X10_readIn t_X10_longOf 17 := ⟨196, wd_1393, dX10_readIn_17⟩
theorem dX10_readIn_20 : decode t_X10_readIn.2.1 20 = .ok (.if_icmp .gt 36, 3) := by decide +kernel
theorem dX10_readIn_23 : decode t_X10_readIn.2.1 23 = .ok (.aload_n 0, 1) := by decide +kernel
theorem dX10_readIn_24 : decode t_X10_readIn.2.1 24 = .ok (.iload_n 1, 1) := by decide +kernel
theorem dX10_readIn_25 : decode t_X10_readIn.2.1 25 = .ok (.iload_n 2, 1) := by decide +kernel
theorem dX10_readIn_26 : decode t_X10_readIn.2.1 26 = .ok (.iload_n 3, 1) := by decide +kernel
theorem dX10_readIn_27 : decode t_X10_readIn.2.1 27 = .ok (.iload 5, 2) := by decide +kernel
theorem dX10_readIn_29 : decode t_X10_readIn.2.1 29 = .ok (.invokevirtual 212, 3) := by decide +kernel
theorem wd_1417 : Cond.methodLink RX10 212 yX10_readFrom ∈ lw_gd := List.mem_filter.mpr ⟨List.mem_of_getElem? (i := 1417) (by decide +kernel), by decide +kernel⟩
theorem iX10_readIn_29 : wm_iv t_X10_readIn t_X10_readFrom 29 := ⟨212, wd_1417, dX10_readIn_29⟩
theorem dX10_readIn_32 : decode t_X10_readIn.2.1 32 = .ok (.istore 6, 2) := by decide +kernel
theorem dX10_readIn_34 : decode t_X10_readIn.2.1 34 = .ok (.iload 6, 2) := by decide +kernel
theorem dX10_readIn_36 : decode t_X10_readIn.2.1 36 = .ok (.iload 4, 2) := by decide +kernel
theorem dX10_readIn_38 : decode t_X10_readIn.2.1 38 = .ok (.if_icmp .le 8, 3) := by decide +kernel
theorem dX10_readIn_41 : decode t_X10_readIn.2.1 41 = .ok (.iload 6, 2) := by decide +kernel
theorem dX10_readIn_43 : decode t_X10_readIn.2.1 43 = .ok (.goto 5, 3) := by decide +kernel
theorem dX10_readIn_46 : decode t_X10_readIn.2.1 46 = .ok (.iload 4, 2) := by decide +kernel
theorem dX10_readIn_48 : decode t_X10_readIn.2.1 48 = .ok (.istore 4, 2) := by decide +kernel
theorem dX10_readIn_50 : decode t_X10_readIn.2.1 50 = .ok (.iinc 5 1, 3) := by decide +kernel
theorem dX10_readIn_53 : decode t_X10_readIn.2.1 53 = .ok (.goto (-47), 3) := by decide +kernel
theorem dX10_readIn_56 : decode t_X10_readIn.2.1 56 = .ok (.iload 4, 2) := by decide +kernel
theorem dX10_readIn_58 : decode t_X10_readIn.2.1 58 = .ok (.ireturn, 1) := by decide +kernel
theorem wd_1428 : Cond.code yX10_readBest cX10_readBest 6 (some .int) ∈ lw_gd := List.mem_filter.mpr ⟨List.mem_of_getElem? (i := 1428) (by decide +kernel), by decide +kernel⟩
theorem wd_1427 : Cond.instanceMethod yX10_readBest ∈ lw_gd := List.mem_filter.mpr ⟨List.mem_of_getElem? (i := 1427) (by decide +kernel), by decide +kernel⟩
theorem wd_55 : Cond.selects RX10 yX10_readBest yX10_readBest ∈ lw_gd := List.mem_filter.mpr ⟨List.mem_of_getElem? (i := 55) (by decide +kernel), by decide +kernel⟩
theorem vX10_readBest : wm_calV t_X10_readBest 1 := ⟨⟨wd_1428, wd_88, by decide +kernel, by decide +kernel, by decide +kernel⟩, wd_1427, wd_55⟩
theorem dX10_readBest_0 : decode t_X10_readBest.2.1 0 = .ok (.iconst 0, 1) := by decide +kernel
theorem dX10_readBest_1 : decode t_X10_readBest.2.1 1 = .ok (.istore_n 2, 1) := by decide +kernel
theorem dX10_readBest_2 : decode t_X10_readBest.2.1 2 = .ok (.iconst 0, 1) := by decide +kernel
theorem dX10_readBest_3 : decode t_X10_readBest.2.1 3 = .ok (.istore_n 3, 1) := by decide +kernel
theorem dX10_readBest_4 : decode t_X10_readBest.2.1 4 = .ok (.iload_n 3, 1) := by decide +kernel
theorem dX10_readBest_5 : decode t_X10_readBest.2.1 5 = .ok (.aload_n 0, 1) := by decide +kernel
theorem dX10_readBest_6 : decode t_X10_readBest.2.1 6 = .ok (.invokevirtual 192, 3) := by decide +kernel
theorem iX10_readBest_6 : wm_iv t_X10_readBest t_X10_streetMany 6 := ⟨192, wd_1385, dX10_readBest_6⟩
theorem dX10_readBest_9 : decode t_X10_readBest.2.1 9 = .ok (.if_icmp .ge 56, 3) := by decide +kernel
theorem dX10_readBest_12 : decode t_X10_readBest.2.1 12 = .ok (.aload_n 0, 1) := by decide +kernel
theorem dX10_readBest_13 : decode t_X10_readBest.2.1 13 = .ok (.getfield 47, 3) := by decide +kernel
theorem gX10_readBest_13 : wm_gf t_X10_readBest 13 10 25 := ⟨_, _, _, 47, rfl, by decide, wd_1139, dX10_readBest_13⟩
theorem dX10_readBest_16 : decode t_X10_readBest.2.1 16 = .ok (.iload_n 1, 1) := by decide +kernel
theorem dX10_readBest_17 : decode t_X10_readBest.2.1 17 = .ok (.iaload, 1) := by decide +kernel
theorem dX10_readBest_18 : decode t_X10_readBest.2.1 18 = .ok (.ifCond .le 47, 3) := by decide +kernel
theorem dX10_readBest_21 : decode t_X10_readBest.2.1 21 = .ok (.iconst 0, 1) := by decide +kernel
theorem dX10_readBest_22 : decode t_X10_readBest.2.1 22 = .ok (.istore 4, 2) := by decide +kernel
theorem dX10_readBest_24 : decode t_X10_readBest.2.1 24 = .ok (.iload 4, 2) := by decide +kernel
theorem dX10_readBest_26 : decode t_X10_readBest.2.1 26 = .ok (.iconst 2, 1) := by decide +kernel
theorem dX10_readBest_27 : decode t_X10_readBest.2.1 27 = .ok (.if_icmp .ge 32, 3) := by decide +kernel
theorem dX10_readBest_30 : decode t_X10_readBest.2.1 30 = .ok (.aload_n 0, 1) := by decide +kernel
theorem dX10_readBest_31 : decode t_X10_readBest.2.1 31 = .ok (.iload_n 1, 1) := by decide +kernel
theorem dX10_readBest_32 : decode t_X10_readBest.2.1 32 = .ok (.iload_n 3, 1) := by decide +kernel
theorem dX10_readBest_33 : decode t_X10_readBest.2.1 33 = .ok (.iload 4, 2) := by decide +kernel
theorem dX10_readBest_35 : decode t_X10_readBest.2.1 35 = .ok (.invokevirtual 216, 3) := by decide +kernel
theorem wd_1413 : Cond.methodLink RX10 216 yX10_readIn ∈ lw_gd := List.mem_filter.mpr ⟨List.mem_of_getElem? (i := 1413) (by decide +kernel), by decide +kernel⟩
theorem iX10_readBest_35 : wm_iv t_X10_readBest t_X10_readIn 35 := ⟨216, wd_1413, dX10_readBest_35⟩
theorem dX10_readBest_38 : decode t_X10_readBest.2.1 38 = .ok (.istore 5, 2) := by decide +kernel
theorem dX10_readBest_40 : decode t_X10_readBest.2.1 40 = .ok (.iload 5, 2) := by decide +kernel
theorem dX10_readBest_42 : decode t_X10_readBest.2.1 42 = .ok (.iload_n 2, 1) := by decide +kernel
theorem dX10_readBest_43 : decode t_X10_readBest.2.1 43 = .ok (.if_icmp .le 8, 3) := by decide +kernel
theorem dX10_readBest_46 : decode t_X10_readBest.2.1 46 = .ok (.iload 5, 2) := by decide +kernel
theorem dX10_readBest_48 : decode t_X10_readBest.2.1 48 = .ok (.goto 4, 3) := by decide +kernel
theorem dX10_readBest_51 : decode t_X10_readBest.2.1 51 = .ok (.iload_n 2, 1) := by decide +kernel
theorem dX10_readBest_52 : decode t_X10_readBest.2.1 52 = .ok (.istore_n 2, 1) := by decide +kernel
theorem dX10_readBest_53 : decode t_X10_readBest.2.1 53 = .ok (.iinc 4 1, 3) := by decide +kernel
theorem dX10_readBest_56 : decode t_X10_readBest.2.1 56 = .ok (.goto (-32), 3) := by decide +kernel
theorem dX10_readBest_59 : decode t_X10_readBest.2.1 59 = .ok (.iinc 3 1, 3) := by decide +kernel
theorem dX10_readBest_62 : decode t_X10_readBest.2.1 62 = .ok (.goto (-58), 3) := by decide +kernel
theorem dX10_readBest_65 : decode t_X10_readBest.2.1 65 = .ok (.iload_n 2, 1) := by decide +kernel
theorem dX10_readBest_66 : decode t_X10_readBest.2.1 66 = .ok (.ireturn, 1) := by decide +kernel
theorem wd_1436 : Cond.code yX10_standing cX10_standing 3 (some .int) ∈ lw_gd := List.mem_filter.mpr ⟨List.mem_of_getElem? (i := 1436) (by decide +kernel), by decide +kernel⟩
theorem wd_1435 : Cond.instanceMethod yX10_standing ∈ lw_gd := List.mem_filter.mpr ⟨List.mem_of_getElem? (i := 1435) (by decide +kernel), by decide +kernel⟩
theorem wd_56 : Cond.selects RX10 yX10_standing yX10_standing ∈ lw_gd := List.mem_filter.mpr ⟨List.mem_of_getElem? (i := 56) (by decide +kernel), by decide +kernel⟩
theorem vX10_standing : wm_calV t_X10_standing 0 := ⟨⟨wd_1436, wd_88, by decide +kernel, by decide +kernel, by decide +kernel⟩, wd_1435, wd_56⟩
theorem dX10_standing_0 : decode t_X10_standing.2.1 0 = .ok (.iconst 0, 1) := by decide +kernel
theorem dX10_standing_1 : decode t_X10_standing.2.1 1 = .ok (.istore_n 1, 1) := by decide +kernel
theorem dX10_standing_2 : decode t_X10_standing.2.1 2 = .ok (.iconst 0, 1) := by decide +kernel
theorem dX10_standing_3 : decode t_X10_standing.2.1 3 = .ok (.istore_n 2, 1) := by decide +kernel
theorem dX10_standing_4 : decode t_X10_standing.2.1 4 = .ok (.iload_n 2, 1) := by decide +kernel
theorem dX10_standing_5 : decode t_X10_standing.2.1 5 = .ok (.iconst 4, 1) := by decide +kernel
theorem dX10_standing_6 : decode t_X10_standing.2.1 6 = .ok (.if_icmp .ge 28, 3) := by decide +kernel
theorem dX10_standing_9 : decode t_X10_standing.2.1 9 = .ok (.iload_n 1, 1) := by decide +kernel
theorem dX10_standing_10 : decode t_X10_standing.2.1 10 = .ok (.aload_n 0, 1) := by decide +kernel
theorem dX10_standing_11 : decode t_X10_standing.2.1 11 = .ok (.iload_n 2, 1) := by decide +kernel
theorem dX10_standing_12 : decode t_X10_standing.2.1 12 = .ok (.invokevirtual 219, 3) := by decide +kernel
theorem wd_1425 : Cond.methodLink RX10 219 yX10_readBest ∈ lw_gd := List.mem_filter.mpr ⟨List.mem_of_getElem? (i := 1425) (by decide +kernel), by decide +kernel⟩
theorem iX10_standing_12 : wm_iv t_X10_standing t_X10_readBest 12 := ⟨219, wd_1425, dX10_standing_12⟩
theorem dX10_standing_15 : decode t_X10_standing.2.1 15 = .ok (.iconst 1, 1) := by decide +kernel
theorem dX10_standing_16 : decode t_X10_standing.2.1 16 = .ok (.if_icmp .le 9, 3) := by decide +kernel
theorem dX10_standing_19 : decode t_X10_standing.2.1 19 = .ok (.iconst 1, 1) := by decide +kernel
theorem dX10_standing_20 : decode t_X10_standing.2.1 20 = .ok (.iload_n 2, 1) := by decide +kernel
theorem dX10_standing_21 : decode t_X10_standing.2.1 21 = .ok (.ishl, 1) := by decide +kernel
theorem dX10_standing_22 : decode t_X10_standing.2.1 22 = .ok (.goto 4, 3) := by decide +kernel
theorem dX10_standing_25 : decode t_X10_standing.2.1 25 = .ok (.iconst 0, 1) := by decide +kernel
theorem dX10_standing_26 : decode t_X10_standing.2.1 26 = .ok (.ior, 1) := by decide +kernel
theorem dX10_standing_27 : decode t_X10_standing.2.1 27 = .ok (.istore_n 1, 1) := by decide +kernel
theorem dX10_standing_28 : decode t_X10_standing.2.1 28 = .ok (.iinc 2 1, 3) := by decide +kernel
theorem dX10_standing_31 : decode t_X10_standing.2.1 31 = .ok (.goto (-27), 3) := by decide +kernel
theorem dX10_standing_34 : decode t_X10_standing.2.1 34 = .ok (.iload_n 1, 1) := by decide +kernel
theorem dX10_standing_35 : decode t_X10_standing.2.1 35 = .ok (.ireturn, 1) := by decide +kernel
theorem wd_1380 : Cond.code yX10_reads cX10_reads 7 (some .int) ∈ lw_gd := List.mem_filter.mpr ⟨List.mem_of_getElem? (i := 1380) (by decide +kernel), by decide +kernel⟩
theorem wd_1378 : Cond.instanceMethod yX10_reads ∈ lw_gd := List.mem_filter.mpr ⟨List.mem_of_getElem? (i := 1378) (by decide +kernel), by decide +kernel⟩
theorem wd_1379 : Cond.selects RX10 yX10_reads yX10_reads ∈ lw_gd := List.mem_filter.mpr ⟨List.mem_of_getElem? (i := 1379) (by decide +kernel), by decide +kernel⟩
theorem vX10_reads : wm_calV t_X10_reads 3 := ⟨⟨wd_1380, wd_88, by decide +kernel, by decide +kernel, by decide +kernel⟩, wd_1378, wd_1379⟩
theorem dX10_reads_0 : decode t_X10_reads.2.1 0 = .ok (.aload_n 0, 1) := by decide +kernel
theorem dX10_reads_1 : decode t_X10_reads.2.1 1 = .ok (.iload_n 1, 1) := by decide +kernel
theorem dX10_reads_2 : decode t_X10_reads.2.1 2 = .ok (.invokevirtual 222, 3) := by decide +kernel
theorem wd_1381 : Cond.methodLink RX10 222 yX10_isStreet ∈ lw_gd := List.mem_filter.mpr ⟨List.mem_of_getElem? (i := 1381) (by decide +kernel), by decide +kernel⟩
theorem iX10_reads_2 : wm_iv t_X10_reads t_X10_isStreet 2 := ⟨222, wd_1381, dX10_reads_2⟩
theorem dX10_reads_5 : decode t_X10_reads.2.1 5 = .ok (.ifCond .eq 19, 3) := by decide +kernel
theorem dX10_reads_8 : decode t_X10_reads.2.1 8 = .ok (.iload_n 2, 1) := by decide +kernel
theorem dX10_reads_9 : decode t_X10_reads.2.1 9 = .ok (.iconst 0, 1) := by decide +kernel
theorem dX10_reads_10 : decode t_X10_reads.2.1 10 = .ok (.iconst 1, 1) := by decide +kernel
theorem dX10_reads_11 : decode t_X10_reads.2.1 11 = .ok (.invokestatic 97, 3) := by decide +kernel
theorem iX10_reads_11 : wm_is t_X10_reads t_X10_in 11 := ⟨97, wd_1248, dX10_reads_11⟩
theorem dX10_reads_14 : decode t_X10_reads.2.1 14 = .ok (.ifCond .eq 10, 3) := by decide +kernel
theorem dX10_reads_17 : decode t_X10_reads.2.1 17 = .ok (.iload_n 3, 1) := by decide +kernel
theorem dX10_reads_18 : decode t_X10_reads.2.1 18 = .ok (.invokestatic 107, 3) := by decide +kernel
theorem iX10_reads_18 : wm_is t_X10_reads t_X10_isRow 18 := ⟨107, wd_1267, dX10_reads_18⟩
theorem dX10_reads_21 : decode t_X10_reads.2.1 21 = .ok (.ifCond .ne 5, 3) := by decide +kernel
theorem dX10_reads_24 : decode t_X10_reads.2.1 24 = .ok (.iconst (-1), 1) := by decide +kernel
theorem dX10_reads_25 : decode t_X10_reads.2.1 25 = .ok (.ireturn, 1) := by decide +kernel
theorem dX10_reads_26 : decode t_X10_reads.2.1 26 = .ok (.aload_n 0, 1) := by decide +kernel
theorem dX10_reads_27 : decode t_X10_reads.2.1 27 = .ok (.invokevirtual 225, 3) := by decide +kernel
theorem wd_1389 : Cond.methodLink RX10 225 yX10_layNow ∈ lw_gd := List.mem_filter.mpr ⟨List.mem_of_getElem? (i := 1389) (by decide +kernel), by decide +kernel⟩
theorem iX10_reads_27 : wm_iv t_X10_reads t_X10_layNow 27 := ⟨225, wd_1389, dX10_reads_27⟩
theorem dX10_reads_30 : decode t_X10_reads.2.1 30 = .ok (.iconst 0, 1) := by decide +kernel
theorem dX10_reads_31 : decode t_X10_reads.2.1 31 = .ok (.istore 4, 2) := by decide +kernel
theorem dX10_reads_33 : decode t_X10_reads.2.1 33 = .ok (.aload_n 0, 1) := by decide +kernel
theorem dX10_reads_34 : decode t_X10_reads.2.1 34 = .ok (.getfield 13, 3) := by decide +kernel
theorem gX10_reads_34 : wm_gf t_X10_reads 34 10 5 := ⟨_, _, _, 13, rfl, by decide, wd_1119, dX10_reads_34⟩
theorem dX10_reads_37 : decode t_X10_reads.2.1 37 = .ok (.iload_n 3, 1) := by decide +kernel
theorem dX10_reads_38 : decode t_X10_reads.2.1 38 = .ok (.aload_n 0, 1) := by decide +kernel
theorem dX10_reads_39 : decode t_X10_reads.2.1 39 = .ok (.iload_n 1, 1) := by decide +kernel
theorem dX10_reads_40 : decode t_X10_reads.2.1 40 = .ok (.invokevirtual 196, 3) := by decide +kernel
theorem iX10_reads_40 : wm_iv t_X10_reads t_X10_longOf 40 := ⟨196, wd_1393, dX10_reads_40⟩
theorem dX10_reads_43 : decode t_X10_reads.2.1 43 = .ok (.iastore, 1) := by decide +kernel
theorem dX10_reads_44 : decode t_X10_reads.2.1 44 = .ok (.iconst 0, 1) := by decide +kernel
theorem dX10_reads_45 : decode t_X10_reads.2.1 45 = .ok (.istore 5, 2) := by decide +kernel
theorem dX10_reads_47 : decode t_X10_reads.2.1 47 = .ok (.iload 5, 2) := by decide +kernel
theorem dX10_reads_49 : decode t_X10_reads.2.1 49 = .ok (.bipush 60, 2) := by decide +kernel
theorem dX10_reads_51 : decode t_X10_reads.2.1 51 = .ok (.if_icmp .ge 74, 3) := by decide +kernel
theorem dX10_reads_54 : decode t_X10_reads.2.1 54 = .ok (.iload 5, 2) := by decide +kernel
theorem dX10_reads_56 : decode t_X10_reads.2.1 56 = .ok (.aload_n 0, 1) := by decide +kernel
theorem dX10_reads_57 : decode t_X10_reads.2.1 57 = .ok (.getfield 13, 3) := by decide +kernel
theorem gX10_reads_57 : wm_gf t_X10_reads 57 10 5 := ⟨_, _, _, 13, rfl, by decide, wd_1119, dX10_reads_57⟩
theorem dX10_reads_60 : decode t_X10_reads.2.1 60 = .ok (.iload_n 3, 1) := by decide +kernel
theorem dX10_reads_61 : decode t_X10_reads.2.1 61 = .ok (.iaload, 1) := by decide +kernel
theorem dX10_reads_62 : decode t_X10_reads.2.1 62 = .ok (.if_icmp .ge 14, 3) := by decide +kernel
theorem dX10_reads_65 : decode t_X10_reads.2.1 65 = .ok (.aload_n 0, 1) := by decide +kernel
theorem dX10_reads_66 : decode t_X10_reads.2.1 66 = .ok (.iload_n 1, 1) := by decide +kernel
theorem dX10_reads_67 : decode t_X10_reads.2.1 67 = .ok (.iload_n 2, 1) := by decide +kernel
theorem dX10_reads_68 : decode t_X10_reads.2.1 68 = .ok (.iload 5, 2) := by decide +kernel
theorem dX10_reads_70 : decode t_X10_reads.2.1 70 = .ok (.invokevirtual 206, 3) := by decide +kernel
theorem iX10_reads_70 : wm_iv t_X10_reads t_X10_wordAt 70 := ⟨206, wd_1397, dX10_reads_70⟩
theorem dX10_reads_73 : decode t_X10_reads.2.1 73 = .ok (.goto 4, 3) := by decide +kernel
theorem dX10_reads_76 : decode t_X10_reads.2.1 76 = .ok (.iconst 0, 1) := by decide +kernel
theorem dX10_reads_77 : decode t_X10_reads.2.1 77 = .ok (.istore 6, 2) := by decide +kernel
theorem dX10_reads_79 : decode t_X10_reads.2.1 79 = .ok (.aload_n 0, 1) := by decide +kernel
theorem dX10_reads_80 : decode t_X10_reads.2.1 80 = .ok (.getfield 16, 3) := by decide +kernel
theorem gX10_reads_80 : wm_gf t_X10_reads 80 10 6 := ⟨_, _, _, 16, rfl, by decide, wd_1120, dX10_reads_80⟩
theorem dX10_reads_83 : decode t_X10_reads.2.1 83 = .ok (.bipush 60, 2) := by decide +kernel
theorem dX10_reads_85 : decode t_X10_reads.2.1 85 = .ok (.iload_n 3, 1) := by decide +kernel
theorem dX10_reads_86 : decode t_X10_reads.2.1 86 = .ok (.imul, 1) := by decide +kernel
theorem dX10_reads_87 : decode t_X10_reads.2.1 87 = .ok (.iload 5, 2) := by decide +kernel
theorem dX10_reads_89 : decode t_X10_reads.2.1 89 = .ok (.iadd, 1) := by decide +kernel
theorem dX10_reads_90 : decode t_X10_reads.2.1 90 = .ok (.iload 6, 2) := by decide +kernel
theorem dX10_reads_92 : decode t_X10_reads.2.1 92 = .ok (.iastore, 1) := by decide +kernel
theorem dX10_reads_93 : decode t_X10_reads.2.1 93 = .ok (.iload 4, 2) := by decide +kernel
theorem dX10_reads_95 : decode t_X10_reads.2.1 95 = .ok (.iload 5, 2) := by decide +kernel
theorem dX10_reads_97 : decode t_X10_reads.2.1 97 = .ok (.aload_n 0, 1) := by decide +kernel
theorem dX10_reads_98 : decode t_X10_reads.2.1 98 = .ok (.getfield 13, 3) := by decide +kernel
theorem gX10_reads_98 : wm_gf t_X10_reads 98 10 5 := ⟨_, _, _, 13, rfl, by decide, wd_1119, dX10_reads_98⟩
theorem dX10_reads_101 : decode t_X10_reads.2.1 101 = .ok (.iload_n 3, 1) := by decide +kernel
theorem dX10_reads_102 : decode t_X10_reads.2.1 102 = .ok (.iaload, 1) := by decide +kernel
theorem dX10_reads_103 : decode t_X10_reads.2.1 103 = .ok (.if_icmp .ge 12, 3) := by decide +kernel
theorem dX10_reads_106 : decode t_X10_reads.2.1 106 = .ok (.iload 6, 2) := by decide +kernel
theorem dX10_reads_108 : decode t_X10_reads.2.1 108 = .ok (.ifCond .lt 7, 3) := by decide +kernel
theorem dX10_reads_111 : decode t_X10_reads.2.1 111 = .ok (.iconst 1, 1) := by decide +kernel
theorem dX10_reads_112 : decode t_X10_reads.2.1 112 = .ok (.goto 4, 3) := by decide +kernel
theorem dX10_reads_115 : decode t_X10_reads.2.1 115 = .ok (.iconst 0, 1) := by decide +kernel
theorem dX10_reads_116 : decode t_X10_reads.2.1 116 = .ok (.iadd, 1) := by decide +kernel
theorem dX10_reads_117 : decode t_X10_reads.2.1 117 = .ok (.istore 4, 2) := by decide +kernel
theorem dX10_reads_119 : decode t_X10_reads.2.1 119 = .ok (.iinc 5 1, 3) := by decide +kernel
theorem dX10_reads_122 : decode t_X10_reads.2.1 122 = .ok (.goto (-75), 3) := by decide +kernel
theorem dX10_reads_125 : decode t_X10_reads.2.1 125 = .ok (.iload 4, 2) := by decide +kernel
theorem dX10_reads_127 : decode t_X10_reads.2.1 127 = .ok (.ireturn, 1) := by decide +kernel
theorem wd_1412 : Cond.code yX10_stands cX10_stands 5 (some .int) ∈ lw_gd := List.mem_filter.mpr ⟨List.mem_of_getElem? (i := 1412) (by decide +kernel), by decide +kernel⟩
theorem wd_1410 : Cond.instanceMethod yX10_stands ∈ lw_gd := List.mem_filter.mpr ⟨List.mem_of_getElem? (i := 1410) (by decide +kernel), by decide +kernel⟩
theorem wd_1411 : Cond.selects RX10 yX10_stands yX10_stands ∈ lw_gd := List.mem_filter.mpr ⟨List.mem_of_getElem? (i := 1411) (by decide +kernel), by decide +kernel⟩
theorem vX10_stands : wm_calV t_X10_stands 1 := ⟨⟨wd_1412, wd_88, by decide +kernel, by decide +kernel, by decide +kernel⟩, wd_1410, wd_1411⟩
theorem dX10_stands_0 : decode t_X10_stands.2.1 0 = .ok (.iload_n 1, 1) := by decide +kernel
theorem dX10_stands_1 : decode t_X10_stands.2.1 1 = .ok (.invokestatic 189, 3) := by decide +kernel
theorem iX10_stands_1 : wm_is t_X10_stands t_X10_isLaw 1 := ⟨189, wd_1374, dX10_stands_1⟩
theorem dX10_stands_4 : decode t_X10_stands.2.1 4 = .ok (.ifCond .ne 5, 3) := by decide +kernel
theorem dX10_stands_7 : decode t_X10_stands.2.1 7 = .ok (.iconst (-1), 1) := by decide +kernel
theorem dX10_stands_8 : decode t_X10_stands.2.1 8 = .ok (.ireturn, 1) := by decide +kernel
theorem dX10_stands_9 : decode t_X10_stands.2.1 9 = .ok (.aload_n 0, 1) := by decide +kernel
theorem dX10_stands_10 : decode t_X10_stands.2.1 10 = .ok (.getfield 47, 3) := by decide +kernel
theorem gX10_stands_10 : wm_gf t_X10_stands 10 10 25 := ⟨_, _, _, 47, rfl, by decide, wd_1139, dX10_stands_10⟩
theorem dX10_stands_13 : decode t_X10_stands.2.1 13 = .ok (.iload_n 1, 1) := by decide +kernel
theorem dX10_stands_14 : decode t_X10_stands.2.1 14 = .ok (.iaload, 1) := by decide +kernel
theorem dX10_stands_15 : decode t_X10_stands.2.1 15 = .ok (.ifCond .ge 9, 3) := by decide +kernel
theorem dX10_stands_18 : decode t_X10_stands.2.1 18 = .ok (.aload_n 0, 1) := by decide +kernel
theorem dX10_stands_19 : decode t_X10_stands.2.1 19 = .ok (.iconst 1, 1) := by decide +kernel
theorem dX10_stands_20 : decode t_X10_stands.2.1 20 = .ok (.invokevirtual 111, 3) := by decide +kernel
theorem iX10_stands_20 : wm_iv t_X10_stands t_X10_meets 20 := ⟨111, wd_1270, dX10_stands_20⟩
theorem dX10_stands_23 : decode t_X10_stands.2.1 23 = .ok (.ireturn, 1) := by decide +kernel
theorem dX10_stands_24 : decode t_X10_stands.2.1 24 = .ok (.aload_n 0, 1) := by decide +kernel
theorem dX10_stands_25 : decode t_X10_stands.2.1 25 = .ok (.invokevirtual 225, 3) := by decide +kernel
theorem iX10_stands_25 : wm_iv t_X10_stands t_X10_layNow 25 := ⟨225, wd_1389, dX10_stands_25⟩
theorem dX10_stands_28 : decode t_X10_stands.2.1 28 = .ok (.iconst 0, 1) := by decide +kernel
theorem dX10_stands_29 : decode t_X10_stands.2.1 29 = .ok (.istore_n 2, 1) := by decide +kernel
theorem dX10_stands_30 : decode t_X10_stands.2.1 30 = .ok (.iconst 0, 1) := by decide +kernel
theorem dX10_stands_31 : decode t_X10_stands.2.1 31 = .ok (.istore_n 3, 1) := by decide +kernel
theorem dX10_stands_32 : decode t_X10_stands.2.1 32 = .ok (.iload_n 3, 1) := by decide +kernel
theorem dX10_stands_33 : decode t_X10_stands.2.1 33 = .ok (.aload_n 0, 1) := by decide +kernel
theorem dX10_stands_34 : decode t_X10_stands.2.1 34 = .ok (.invokevirtual 192, 3) := by decide +kernel
theorem iX10_stands_34 : wm_iv t_X10_stands t_X10_streetMany 34 := ⟨192, wd_1385, dX10_stands_34⟩
theorem dX10_stands_37 : decode t_X10_stands.2.1 37 = .ok (.if_icmp .ge 44, 3) := by decide +kernel
theorem dX10_stands_40 : decode t_X10_stands.2.1 40 = .ok (.iconst 0, 1) := by decide +kernel
theorem dX10_stands_41 : decode t_X10_stands.2.1 41 = .ok (.istore 4, 2) := by decide +kernel
theorem dX10_stands_43 : decode t_X10_stands.2.1 43 = .ok (.iload 4, 2) := by decide +kernel
theorem dX10_stands_45 : decode t_X10_stands.2.1 45 = .ok (.iconst 2, 1) := by decide +kernel
theorem dX10_stands_46 : decode t_X10_stands.2.1 46 = .ok (.if_icmp .ge 29, 3) := by decide +kernel
theorem dX10_stands_49 : decode t_X10_stands.2.1 49 = .ok (.iload_n 2, 1) := by decide +kernel
theorem dX10_stands_50 : decode t_X10_stands.2.1 50 = .ok (.aload_n 0, 1) := by decide +kernel
theorem dX10_stands_51 : decode t_X10_stands.2.1 51 = .ok (.iload_n 1, 1) := by decide +kernel
theorem dX10_stands_52 : decode t_X10_stands.2.1 52 = .ok (.iload_n 3, 1) := by decide +kernel
theorem dX10_stands_53 : decode t_X10_stands.2.1 53 = .ok (.iload 4, 2) := by decide +kernel
theorem dX10_stands_55 : decode t_X10_stands.2.1 55 = .ok (.invokevirtual 216, 3) := by decide +kernel
theorem iX10_stands_55 : wm_iv t_X10_stands t_X10_readIn 55 := ⟨216, wd_1413, dX10_stands_55⟩
theorem dX10_stands_58 : decode t_X10_stands.2.1 58 = .ok (.iconst 1, 1) := by decide +kernel
theorem dX10_stands_59 : decode t_X10_stands.2.1 59 = .ok (.if_icmp .le 7, 3) := by decide +kernel
theorem dX10_stands_62 : decode t_X10_stands.2.1 62 = .ok (.iconst 1, 1) := by decide +kernel
theorem dX10_stands_63 : decode t_X10_stands.2.1 63 = .ok (.goto 4, 3) := by decide +kernel
theorem dX10_stands_66 : decode t_X10_stands.2.1 66 = .ok (.iconst 0, 1) := by decide +kernel
theorem dX10_stands_67 : decode t_X10_stands.2.1 67 = .ok (.iadd, 1) := by decide +kernel
theorem dX10_stands_68 : decode t_X10_stands.2.1 68 = .ok (.istore_n 2, 1) := by decide +kernel
theorem dX10_stands_69 : decode t_X10_stands.2.1 69 = .ok (.iinc 4 1, 3) := by decide +kernel
theorem dX10_stands_72 : decode t_X10_stands.2.1 72 = .ok (.goto (-29), 3) := by decide +kernel
theorem dX10_stands_75 : decode t_X10_stands.2.1 75 = .ok (.iinc 3 1, 3) := by decide +kernel
theorem dX10_stands_78 : decode t_X10_stands.2.1 78 = .ok (.goto (-46), 3) := by decide +kernel
theorem dX10_stands_81 : decode t_X10_stands.2.1 81 = .ok (.aload_n 0, 1) := by decide +kernel
theorem dX10_stands_82 : decode t_X10_stands.2.1 82 = .ok (.iload_n 1, 1) := by decide +kernel
theorem dX10_stands_83 : decode t_X10_stands.2.1 83 = .ok (.invokevirtual 219, 3) := by decide +kernel
theorem iX10_stands_83 : wm_iv t_X10_stands t_X10_readBest 83 := ⟨219, wd_1425, dX10_stands_83⟩
theorem dX10_stands_86 : decode t_X10_stands.2.1 86 = .ok (.istore_n 3, 1) := by decide +kernel
theorem dX10_stands_87 : decode t_X10_stands.2.1 87 = .ok (.aload_n 0, 1) := by decide +kernel
theorem dX10_stands_88 : decode t_X10_stands.2.1 88 = .ok (.iload_n 2, 1) := by decide +kernel
theorem dX10_stands_89 : decode t_X10_stands.2.1 89 = .ok (.iload_n 3, 1) := by decide +kernel
theorem dX10_stands_90 : decode t_X10_stands.2.1 90 = .ok (.iconst 3, 1) := by decide +kernel
theorem dX10_stands_91 : decode t_X10_stands.2.1 91 = .ok (.if_icmp .ne 7, 3) := by decide +kernel
theorem dX10_stands_94 : decode t_X10_stands.2.1 94 = .ok (.iconst 2, 1) := by decide +kernel
theorem dX10_stands_95 : decode t_X10_stands.2.1 95 = .ok (.goto 12, 3) := by decide +kernel
theorem dX10_stands_98 : decode t_X10_stands.2.1 98 = .ok (.iload_n 3, 1) := by decide +kernel
theorem dX10_stands_99 : decode t_X10_stands.2.1 99 = .ok (.ifCond .le 7, 3) := by decide +kernel
theorem dX10_stands_102 : decode t_X10_stands.2.1 102 = .ok (.iconst 1, 1) := by decide +kernel
theorem dX10_stands_103 : decode t_X10_stands.2.1 103 = .ok (.goto 4, 3) := by decide +kernel
theorem dX10_stands_106 : decode t_X10_stands.2.1 106 = .ok (.iconst 0, 1) := by decide +kernel
theorem dX10_stands_107 : decode t_X10_stands.2.1 107 = .ok (.invokevirtual 119, 3) := by decide +kernel
theorem iX10_stands_107 : wm_iv t_X10_stands t_X10_tells 107 := ⟨119, wd_1282, dX10_stands_107⟩
theorem dX10_stands_110 : decode t_X10_stands.2.1 110 = .ok (.ireturn, 1) := by decide +kernel
theorem wd_1432 : Cond.code yX10_laws cX10_laws 3 (some .int) ∈ lw_gd := List.mem_filter.mpr ⟨List.mem_of_getElem? (i := 1432) (by decide +kernel), by decide +kernel⟩
theorem wd_1430 : Cond.instanceMethod yX10_laws ∈ lw_gd := List.mem_filter.mpr ⟨List.mem_of_getElem? (i := 1430) (by decide +kernel), by decide +kernel⟩
theorem wd_1431 : Cond.selects RX10 yX10_laws yX10_laws ∈ lw_gd := List.mem_filter.mpr ⟨List.mem_of_getElem? (i := 1431) (by decide +kernel), by decide +kernel⟩
theorem vX10_laws : wm_calV t_X10_laws 0 := ⟨⟨wd_1432, wd_88, by decide +kernel, by decide +kernel, by decide +kernel⟩, wd_1430, wd_1431⟩
theorem dX10_laws_0 : decode t_X10_laws.2.1 0 = .ok (.aload_n 0, 1) := by decide +kernel
theorem dX10_laws_1 : decode t_X10_laws.2.1 1 = .ok (.invokevirtual 225, 3) := by decide +kernel
theorem iX10_laws_1 : wm_iv t_X10_laws t_X10_layNow 1 := ⟨225, wd_1389, dX10_laws_1⟩
theorem dX10_laws_4 : decode t_X10_laws.2.1 4 = .ok (.iconst 0, 1) := by decide +kernel
theorem dX10_laws_5 : decode t_X10_laws.2.1 5 = .ok (.istore_n 1, 1) := by decide +kernel
theorem dX10_laws_6 : decode t_X10_laws.2.1 6 = .ok (.iconst 0, 1) := by decide +kernel
theorem dX10_laws_7 : decode t_X10_laws.2.1 7 = .ok (.istore_n 2, 1) := by decide +kernel
theorem dX10_laws_8 : decode t_X10_laws.2.1 8 = .ok (.iload_n 2, 1) := by decide +kernel
theorem dX10_laws_9 : decode t_X10_laws.2.1 9 = .ok (.iconst 4, 1) := by decide +kernel
theorem dX10_laws_10 : decode t_X10_laws.2.1 10 = .ok (.if_icmp .ge 27, 3) := by decide +kernel
theorem dX10_laws_13 : decode t_X10_laws.2.1 13 = .ok (.iload_n 1, 1) := by decide +kernel
theorem dX10_laws_14 : decode t_X10_laws.2.1 14 = .ok (.aload_n 0, 1) := by decide +kernel
theorem dX10_laws_15 : decode t_X10_laws.2.1 15 = .ok (.iload_n 2, 1) := by decide +kernel
theorem dX10_laws_16 : decode t_X10_laws.2.1 16 = .ok (.invokevirtual 219, 3) := by decide +kernel
theorem iX10_laws_16 : wm_iv t_X10_laws t_X10_readBest 16 := ⟨219, wd_1425, dX10_laws_16⟩
theorem dX10_laws_19 : decode t_X10_laws.2.1 19 = .ok (.ifCond .le 9, 3) := by decide +kernel
theorem dX10_laws_22 : decode t_X10_laws.2.1 22 = .ok (.iconst 1, 1) := by decide +kernel
theorem dX10_laws_23 : decode t_X10_laws.2.1 23 = .ok (.iload_n 2, 1) := by decide +kernel
theorem dX10_laws_24 : decode t_X10_laws.2.1 24 = .ok (.ishl, 1) := by decide +kernel
theorem dX10_laws_25 : decode t_X10_laws.2.1 25 = .ok (.goto 4, 3) := by decide +kernel
theorem dX10_laws_28 : decode t_X10_laws.2.1 28 = .ok (.iconst 0, 1) := by decide +kernel
theorem dX10_laws_29 : decode t_X10_laws.2.1 29 = .ok (.ior, 1) := by decide +kernel
theorem dX10_laws_30 : decode t_X10_laws.2.1 30 = .ok (.istore_n 1, 1) := by decide +kernel
theorem dX10_laws_31 : decode t_X10_laws.2.1 31 = .ok (.iinc 2 1, 3) := by decide +kernel
theorem dX10_laws_34 : decode t_X10_laws.2.1 34 = .ok (.goto (-26), 3) := by decide +kernel
theorem dX10_laws_37 : decode t_X10_laws.2.1 37 = .ok (.aload_n 0, 1) := by decide +kernel
theorem dX10_laws_38 : decode t_X10_laws.2.1 38 = .ok (.iload_n 1, 1) := by decide +kernel
theorem dX10_laws_39 : decode t_X10_laws.2.1 39 = .ok (.aload_n 0, 1) := by decide +kernel
theorem dX10_laws_40 : decode t_X10_laws.2.1 40 = .ok (.invokevirtual 228, 3) := by decide +kernel
theorem wd_1433 : Cond.methodLink RX10 228 yX10_standing ∈ lw_gd := List.mem_filter.mpr ⟨List.mem_of_getElem? (i := 1433) (by decide +kernel), by decide +kernel⟩
theorem iX10_laws_40 : wm_iv t_X10_laws t_X10_standing 40 := ⟨228, wd_1433, dX10_laws_40⟩
theorem dX10_laws_43 : decode t_X10_laws.2.1 43 = .ok (.invokevirtual 119, 3) := by decide +kernel
theorem iX10_laws_43 : wm_iv t_X10_laws t_X10_tells 43 := ⟨119, wd_1282, dX10_laws_43⟩
theorem dX10_laws_46 : decode t_X10_laws.2.1 46 = .ok (.ireturn, 1) := by decide +kernel
theorem wd_1452 : Cond.code yX10_stepOf cX10_stepOf 2 (some .int) ∈ lw_gd := List.mem_filter.mpr ⟨List.mem_of_getElem? (i := 1452) (by decide +kernel), by decide +kernel⟩
theorem wd_1451 : Cond.instanceMethod yX10_stepOf ∈ lw_gd := List.mem_filter.mpr ⟨List.mem_of_getElem? (i := 1451) (by decide +kernel), by decide +kernel⟩
theorem wd_59 : Cond.selects RX10 yX10_stepOf yX10_stepOf ∈ lw_gd := List.mem_filter.mpr ⟨List.mem_of_getElem? (i := 59) (by decide +kernel), by decide +kernel⟩
theorem vX10_stepOf : wm_calV t_X10_stepOf 1 := ⟨⟨wd_1452, wd_88, by decide +kernel, by decide +kernel, by decide +kernel⟩, wd_1451, wd_59⟩
theorem dX10_stepOf_0 : decode t_X10_stepOf.2.1 0 = .ok (.aload_n 0, 1) := by decide +kernel
theorem dX10_stepOf_1 : decode t_X10_stepOf.2.1 1 = .ok (.getfield 29, 3) := by decide +kernel
theorem gX10_stepOf_1 : wm_gf t_X10_stepOf 1 10 13 := ⟨_, _, _, 29, rfl, by decide, wd_1127, dX10_stepOf_1⟩
theorem dX10_stepOf_4 : decode t_X10_stepOf.2.1 4 = .ok (.iload_n 1, 1) := by decide +kernel
theorem dX10_stepOf_5 : decode t_X10_stepOf.2.1 5 = .ok (.iaload, 1) := by decide +kernel
theorem dX10_stepOf_6 : decode t_X10_stepOf.2.1 6 = .ok (.iconst 3, 1) := by decide +kernel
theorem dX10_stepOf_7 : decode t_X10_stepOf.2.1 7 = .ok (.if_icmp .ne 7, 3) := by decide +kernel
theorem dX10_stepOf_10 : decode t_X10_stepOf.2.1 10 = .ok (.iconst 2, 1) := by decide +kernel
theorem dX10_stepOf_11 : decode t_X10_stepOf.2.1 11 = .ok (.goto 4, 3) := by decide +kernel
theorem dX10_stepOf_14 : decode t_X10_stepOf.2.1 14 = .ok (.iconst 1, 1) := by decide +kernel
theorem dX10_stepOf_15 : decode t_X10_stepOf.2.1 15 = .ok (.ireturn, 1) := by decide +kernel
theorem wd_1448 : Cond.code yX10_turns cX10_turns 2 (none) ∈ lw_gd := List.mem_filter.mpr ⟨List.mem_of_getElem? (i := 1448) (by decide +kernel), by decide +kernel⟩
theorem wd_1447 : Cond.instanceMethod yX10_turns ∈ lw_gd := List.mem_filter.mpr ⟨List.mem_of_getElem? (i := 1447) (by decide +kernel), by decide +kernel⟩
theorem wd_58 : Cond.selects RX10 yX10_turns yX10_turns ∈ lw_gd := List.mem_filter.mpr ⟨List.mem_of_getElem? (i := 58) (by decide +kernel), by decide +kernel⟩
theorem vX10_turns : wm_calV t_X10_turns 1 := ⟨⟨wd_1448, wd_88, by decide +kernel, by decide +kernel, by decide +kernel⟩, wd_1447, wd_58⟩
theorem dX10_turns_0 : decode t_X10_turns.2.1 0 = .ok (.iload_n 1, 1) := by decide +kernel
theorem dX10_turns_1 : decode t_X10_turns.2.1 1 = .ok (.bipush (-9), 2) := by decide +kernel
theorem dX10_turns_3 : decode t_X10_turns.2.1 3 = .ok (.if_icmp .eq 23, 3) := by decide +kernel
theorem dX10_turns_6 : decode t_X10_turns.2.1 6 = .ok (.aload_n 0, 1) := by decide +kernel
theorem dX10_turns_7 : decode t_X10_turns.2.1 7 = .ok (.getfield 41, 3) := by decide +kernel
theorem gX10_turns_7 : wm_gf t_X10_turns 7 10 17 := ⟨_, _, _, 41, rfl, by decide, wd_1131, dX10_turns_7⟩
theorem dX10_turns_10 : decode t_X10_turns.2.1 10 = .ok (.iload_n 1, 1) := by decide +kernel
theorem dX10_turns_11 : decode t_X10_turns.2.1 11 = .ok (.aload_n 0, 1) := by decide +kernel
theorem dX10_turns_12 : decode t_X10_turns.2.1 12 = .ok (.getfield 41, 3) := by decide +kernel
theorem gX10_turns_12 : wm_gf t_X10_turns 12 10 17 := ⟨_, _, _, 41, rfl, by decide, wd_1131, dX10_turns_12⟩
theorem dX10_turns_15 : decode t_X10_turns.2.1 15 = .ok (.iload_n 1, 1) := by decide +kernel
theorem dX10_turns_16 : decode t_X10_turns.2.1 16 = .ok (.iaload, 1) := by decide +kernel
theorem dX10_turns_17 : decode t_X10_turns.2.1 17 = .ok (.aload_n 0, 1) := by decide +kernel
theorem dX10_turns_18 : decode t_X10_turns.2.1 18 = .ok (.iload_n 1, 1) := by decide +kernel
theorem dX10_turns_19 : decode t_X10_turns.2.1 19 = .ok (.invokevirtual 231, 3) := by decide +kernel
theorem wd_1449 : Cond.methodLink RX10 231 yX10_stepOf ∈ lw_gd := List.mem_filter.mpr ⟨List.mem_of_getElem? (i := 1449) (by decide +kernel), by decide +kernel⟩
theorem iX10_turns_19 : wm_iv t_X10_turns t_X10_stepOf 19 := ⟨231, wd_1449, dX10_turns_19⟩
theorem dX10_turns_22 : decode t_X10_turns.2.1 22 = .ok (.iadd, 1) := by decide +kernel
theorem dX10_turns_23 : decode t_X10_turns.2.1 23 = .ok (.iconst 4, 1) := by decide +kernel
theorem dX10_turns_24 : decode t_X10_turns.2.1 24 = .ok (.irem, 1) := by decide +kernel
theorem dX10_turns_25 : decode t_X10_turns.2.1 25 = .ok (.iastore, 1) := by decide +kernel
theorem dX10_turns_26 : decode t_X10_turns.2.1 26 = .ok (.aload_n 0, 1) := by decide +kernel
theorem dX10_turns_27 : decode t_X10_turns.2.1 27 = .ok (.dup, 1) := by decide +kernel
theorem dX10_turns_28 : decode t_X10_turns.2.1 28 = .ok (.getfield 167, 3) := by decide +kernel
theorem gX10_turns_28 : wm_gf t_X10_turns 28 10 18 := ⟨_, _, _, 167, rfl, by decide, wd_1132, dX10_turns_28⟩
theorem dX10_turns_31 : decode t_X10_turns.2.1 31 = .ok (.iconst 1, 1) := by decide +kernel
theorem dX10_turns_32 : decode t_X10_turns.2.1 32 = .ok (.iadd, 1) := by decide +kernel
theorem dX10_turns_33 : decode t_X10_turns.2.1 33 = .ok (.putfield 167, 3) := by decide +kernel
theorem gX10_turns_33 : wm_pf t_X10_turns 33 10 18 .int := ⟨_, _, _, 167, rfl, by decide, wd_1132, dX10_turns_33, rfl, by decide +kernel⟩
theorem dX10_turns_36 : decode t_X10_turns.2.1 36 = .ok (.return_, 1) := by decide +kernel
theorem wd_1440 : Cond.code yX10_turn cX10_turn 2 (some .int) ∈ lw_gd := List.mem_filter.mpr ⟨List.mem_of_getElem? (i := 1440) (by decide +kernel), by decide +kernel⟩
theorem wd_1438 : Cond.instanceMethod yX10_turn ∈ lw_gd := List.mem_filter.mpr ⟨List.mem_of_getElem? (i := 1438) (by decide +kernel), by decide +kernel⟩
theorem wd_1439 : Cond.selects RX10 yX10_turn yX10_turn ∈ lw_gd := List.mem_filter.mpr ⟨List.mem_of_getElem? (i := 1439) (by decide +kernel), by decide +kernel⟩
theorem vX10_turn : wm_calV t_X10_turn 1 := ⟨⟨wd_1440, wd_88, by decide +kernel, by decide +kernel, by decide +kernel⟩, wd_1438, wd_1439⟩
theorem dX10_turn_0 : decode t_X10_turn.2.1 0 = .ok (.iload_n 1, 1) := by decide +kernel
theorem dX10_turn_1 : decode t_X10_turn.2.1 1 = .ok (.bipush (-9), 2) := by decide +kernel
theorem dX10_turn_3 : decode t_X10_turn.2.1 3 = .ok (.if_icmp .eq 13, 3) := by decide +kernel
theorem dX10_turn_6 : decode t_X10_turn.2.1 6 = .ok (.aload_n 0, 1) := by decide +kernel
theorem dX10_turn_7 : decode t_X10_turn.2.1 7 = .ok (.iload_n 1, 1) := by decide +kernel
theorem dX10_turn_8 : decode t_X10_turn.2.1 8 = .ok (.invokevirtual 173, 3) := by decide +kernel
theorem iX10_turn_8 : wm_iv t_X10_turn t_X10_isStone 8 := ⟨173, wd_1348, dX10_turn_8⟩
theorem dX10_turn_11 : decode t_X10_turn.2.1 11 = .ok (.ifCond .ne 5, 3) := by decide +kernel
theorem dX10_turn_14 : decode t_X10_turn.2.1 14 = .ok (.iconst (-1), 1) := by decide +kernel
theorem dX10_turn_15 : decode t_X10_turn.2.1 15 = .ok (.ireturn, 1) := by decide +kernel
theorem dX10_turn_16 : decode t_X10_turn.2.1 16 = .ok (.iload_n 1, 1) := by decide +kernel
theorem dX10_turn_17 : decode t_X10_turn.2.1 17 = .ok (.bipush (-9), 2) := by decide +kernel
theorem dX10_turn_19 : decode t_X10_turn.2.1 19 = .ok (.if_icmp .eq 17, 3) := by decide +kernel
theorem dX10_turn_22 : decode t_X10_turn.2.1 22 = .ok (.aload_n 0, 1) := by decide +kernel
theorem dX10_turn_23 : decode t_X10_turn.2.1 23 = .ok (.iload_n 1, 1) := by decide +kernel
theorem dX10_turn_24 : decode t_X10_turn.2.1 24 = .ok (.invokevirtual 234, 3) := by decide +kernel
theorem wd_1441 : Cond.methodLink RX10 234 yX10_isFixed ∈ lw_gd := List.mem_filter.mpr ⟨List.mem_of_getElem? (i := 1441) (by decide +kernel), by decide +kernel⟩
theorem iX10_turn_24 : wm_iv t_X10_turn t_X10_isFixed 24 := ⟨234, wd_1441, dX10_turn_24⟩
theorem dX10_turn_27 : decode t_X10_turn.2.1 27 = .ok (.ifCond .eq 9, 3) := by decide +kernel
theorem dX10_turn_30 : decode t_X10_turn.2.1 30 = .ok (.aload_n 0, 1) := by decide +kernel
theorem dX10_turn_31 : decode t_X10_turn.2.1 31 = .ok (.iconst 3, 1) := by decide +kernel
theorem dX10_turn_32 : decode t_X10_turn.2.1 32 = .ok (.invokevirtual 111, 3) := by decide +kernel
theorem iX10_turn_32 : wm_iv t_X10_turn t_X10_meets 32 := ⟨111, wd_1270, dX10_turn_32⟩
theorem dX10_turn_35 : decode t_X10_turn.2.1 35 = .ok (.ireturn, 1) := by decide +kernel
theorem dX10_turn_36 : decode t_X10_turn.2.1 36 = .ok (.aload_n 0, 1) := by decide +kernel
theorem dX10_turn_37 : decode t_X10_turn.2.1 37 = .ok (.getfield 167, 3) := by decide +kernel
theorem gX10_turn_37 : wm_gf t_X10_turn 37 10 18 := ⟨_, _, _, 167, rfl, by decide, wd_1132, dX10_turn_37⟩
theorem dX10_turn_40 : decode t_X10_turn.2.1 40 = .ok (.sipush 999, 3) := by decide +kernel
theorem dX10_turn_43 : decode t_X10_turn.2.1 43 = .ok (.if_icmp .ne 6, 3) := by decide +kernel
theorem dX10_turn_46 : decode t_X10_turn.2.1 46 = .ok (.bipush (-6), 2) := by decide +kernel
theorem dX10_turn_48 : decode t_X10_turn.2.1 48 = .ok (.ireturn, 1) := by decide +kernel
theorem dX10_turn_49 : decode t_X10_turn.2.1 49 = .ok (.aload_n 0, 1) := by decide +kernel
theorem dX10_turn_50 : decode t_X10_turn.2.1 50 = .ok (.iload_n 1, 1) := by decide +kernel
theorem dX10_turn_51 : decode t_X10_turn.2.1 51 = .ok (.invokevirtual 237, 3) := by decide +kernel
theorem wd_1445 : Cond.methodLink RX10 237 yX10_turns ∈ lw_gd := List.mem_filter.mpr ⟨List.mem_of_getElem? (i := 1445) (by decide +kernel), by decide +kernel⟩
theorem iX10_turn_51 : wm_iv t_X10_turn t_X10_turns 51 := ⟨237, wd_1445, dX10_turn_51⟩
theorem dX10_turn_54 : decode t_X10_turn.2.1 54 = .ok (.aload_n 0, 1) := by decide +kernel
theorem dX10_turn_55 : decode t_X10_turn.2.1 55 = .ok (.getfield 167, 3) := by decide +kernel
theorem gX10_turn_55 : wm_gf t_X10_turn 55 10 18 := ⟨_, _, _, 167, rfl, by decide, wd_1132, dX10_turn_55⟩
theorem dX10_turn_58 : decode t_X10_turn.2.1 58 = .ok (.ireturn, 1) := by decide +kernel
theorem wd_1456 : Cond.code yX10_till cX10_till 6 (some .int) ∈ lw_gd := List.mem_filter.mpr ⟨List.mem_of_getElem? (i := 1456) (by decide +kernel), by decide +kernel⟩
theorem wd_1454 : Cond.instanceMethod yX10_till ∈ lw_gd := List.mem_filter.mpr ⟨List.mem_of_getElem? (i := 1454) (by decide +kernel), by decide +kernel⟩
theorem wd_1455 : Cond.selects RX10 yX10_till yX10_till ∈ lw_gd := List.mem_filter.mpr ⟨List.mem_of_getElem? (i := 1455) (by decide +kernel), by decide +kernel⟩
theorem vX10_till : wm_calV t_X10_till 2 := ⟨⟨wd_1456, wd_88, by decide +kernel, by decide +kernel, by decide +kernel⟩, wd_1454, wd_1455⟩
theorem dX10_till_0 : decode t_X10_till.2.1 0 = .ok (.iload_n 1, 1) := by decide +kernel
theorem dX10_till_1 : decode t_X10_till.2.1 1 = .ok (.invokestatic 107, 3) := by decide +kernel
theorem iX10_till_1 : wm_is t_X10_till t_X10_isRow 1 := ⟨107, wd_1267, dX10_till_1⟩
theorem dX10_till_4 : decode t_X10_till.2.1 4 = .ok (.ifCond .eq 10, 3) := by decide +kernel
theorem dX10_till_7 : decode t_X10_till.2.1 7 = .ok (.iload_n 2, 1) := by decide +kernel
theorem dX10_till_8 : decode t_X10_till.2.1 8 = .ok (.invokestatic 189, 3) := by decide +kernel
theorem iX10_till_8 : wm_is t_X10_till t_X10_isLaw 8 := ⟨189, wd_1374, dX10_till_8⟩
theorem dX10_till_11 : decode t_X10_till.2.1 11 = .ok (.ifCond .ne 5, 3) := by decide +kernel
theorem dX10_till_14 : decode t_X10_till.2.1 14 = .ok (.iconst (-1), 1) := by decide +kernel
theorem dX10_till_15 : decode t_X10_till.2.1 15 = .ok (.ireturn, 1) := by decide +kernel
theorem dX10_till_16 : decode t_X10_till.2.1 16 = .ok (.aload_n 0, 1) := by decide +kernel
theorem dX10_till_17 : decode t_X10_till.2.1 17 = .ok (.getfield 47, 3) := by decide +kernel
theorem gX10_till_17 : wm_gf t_X10_till 17 10 25 := ⟨_, _, _, 47, rfl, by decide, wd_1139, dX10_till_17⟩
theorem dX10_till_20 : decode t_X10_till.2.1 20 = .ok (.iload_n 2, 1) := by decide +kernel
theorem dX10_till_21 : decode t_X10_till.2.1 21 = .ok (.iaload, 1) := by decide +kernel
theorem dX10_till_22 : decode t_X10_till.2.1 22 = .ok (.ifCond .lt 12, 3) := by decide +kernel
theorem dX10_till_25 : decode t_X10_till.2.1 25 = .ok (.aload_n 0, 1) := by decide +kernel
theorem dX10_till_26 : decode t_X10_till.2.1 26 = .ok (.getfield 13, 3) := by decide +kernel
theorem gX10_till_26 : wm_gf t_X10_till 26 10 5 := ⟨_, _, _, 13, rfl, by decide, wd_1119, dX10_till_26⟩
theorem dX10_till_29 : decode t_X10_till.2.1 29 = .ok (.iload_n 1, 1) := by decide +kernel
theorem dX10_till_30 : decode t_X10_till.2.1 30 = .ok (.iaload, 1) := by decide +kernel
theorem dX10_till_31 : decode t_X10_till.2.1 31 = .ok (.ifCond .ge 9, 3) := by decide +kernel
theorem dX10_till_34 : decode t_X10_till.2.1 34 = .ok (.aload_n 0, 1) := by decide +kernel
theorem dX10_till_35 : decode t_X10_till.2.1 35 = .ok (.iconst 1, 1) := by decide +kernel
theorem dX10_till_36 : decode t_X10_till.2.1 36 = .ok (.invokevirtual 111, 3) := by decide +kernel
theorem iX10_till_36 : wm_iv t_X10_till t_X10_meets 36 := ⟨111, wd_1270, dX10_till_36⟩
theorem dX10_till_39 : decode t_X10_till.2.1 39 = .ok (.ireturn, 1) := by decide +kernel
theorem dX10_till_40 : decode t_X10_till.2.1 40 = .ok (.iconst 1, 1) := by decide +kernel
theorem dX10_till_41 : decode t_X10_till.2.1 41 = .ok (.istore_n 3, 1) := by decide +kernel
theorem dX10_till_42 : decode t_X10_till.2.1 42 = .ok (.iconst 0, 1) := by decide +kernel
theorem dX10_till_43 : decode t_X10_till.2.1 43 = .ok (.istore 4, 2) := by decide +kernel
theorem dX10_till_45 : decode t_X10_till.2.1 45 = .ok (.iload 4, 2) := by decide +kernel
theorem dX10_till_47 : decode t_X10_till.2.1 47 = .ok (.aload_n 0, 1) := by decide +kernel
theorem dX10_till_48 : decode t_X10_till.2.1 48 = .ok (.getfield 13, 3) := by decide +kernel
theorem gX10_till_48 : wm_gf t_X10_till 48 10 5 := ⟨_, _, _, 13, rfl, by decide, wd_1119, dX10_till_48⟩
theorem dX10_till_51 : decode t_X10_till.2.1 51 = .ok (.iload_n 1, 1) := by decide +kernel
theorem dX10_till_52 : decode t_X10_till.2.1 52 = .ok (.iaload, 1) := by decide +kernel
theorem dX10_till_53 : decode t_X10_till.2.1 53 = .ok (.if_icmp .ge 53, 3) := by decide +kernel
theorem dX10_till_56 : decode t_X10_till.2.1 56 = .ok (.aload_n 0, 1) := by decide +kernel
theorem dX10_till_57 : decode t_X10_till.2.1 57 = .ok (.iload_n 1, 1) := by decide +kernel
theorem dX10_till_58 : decode t_X10_till.2.1 58 = .ok (.iload 4, 2) := by decide +kernel
theorem dX10_till_60 : decode t_X10_till.2.1 60 = .ok (.invokevirtual 115, 3) := by decide +kernel
theorem iX10_till_60 : wm_iv t_X10_till t_X10_rowAt 60 := ⟨115, wd_1278, dX10_till_60⟩
theorem dX10_till_63 : decode t_X10_till.2.1 63 = .ok (.istore 5, 2) := by decide +kernel
theorem dX10_till_65 : decode t_X10_till.2.1 65 = .ok (.iload_n 3, 1) := by decide +kernel
theorem dX10_till_66 : decode t_X10_till.2.1 66 = .ok (.ifCond .eq 32, 3) := by decide +kernel
theorem dX10_till_69 : decode t_X10_till.2.1 69 = .ok (.iload 5, 2) := by decide +kernel
theorem dX10_till_71 : decode t_X10_till.2.1 71 = .ok (.bipush (-9), 2) := by decide +kernel
theorem dX10_till_73 : decode t_X10_till.2.1 73 = .ok (.if_icmp .eq 21, 3) := by decide +kernel
theorem dX10_till_76 : decode t_X10_till.2.1 76 = .ok (.aload_n 0, 1) := by decide +kernel
theorem dX10_till_77 : decode t_X10_till.2.1 77 = .ok (.iload 5, 2) := by decide +kernel
theorem dX10_till_79 : decode t_X10_till.2.1 79 = .ok (.invokevirtual 173, 3) := by decide +kernel
theorem iX10_till_79 : wm_iv t_X10_till t_X10_isStone 79 := ⟨173, wd_1348, dX10_till_79⟩
theorem dX10_till_82 : decode t_X10_till.2.1 82 = .ok (.ifCond .eq 16, 3) := by decide +kernel
theorem dX10_till_85 : decode t_X10_till.2.1 85 = .ok (.aload_n 0, 1) := by decide +kernel
theorem dX10_till_86 : decode t_X10_till.2.1 86 = .ok (.iload 5, 2) := by decide +kernel
theorem dX10_till_88 : decode t_X10_till.2.1 88 = .ok (.invokevirtual 234, 3) := by decide +kernel
theorem iX10_till_88 : wm_iv t_X10_till t_X10_isFixed 88 := ⟨234, wd_1441, dX10_till_88⟩
theorem dX10_till_91 : decode t_X10_till.2.1 91 = .ok (.ifCond .ne 7, 3) := by decide +kernel
theorem dX10_till_94 : decode t_X10_till.2.1 94 = .ok (.iconst 1, 1) := by decide +kernel
theorem dX10_till_95 : decode t_X10_till.2.1 95 = .ok (.goto 4, 3) := by decide +kernel
theorem dX10_till_98 : decode t_X10_till.2.1 98 = .ok (.iconst 0, 1) := by decide +kernel
theorem dX10_till_99 : decode t_X10_till.2.1 99 = .ok (.istore_n 3, 1) := by decide +kernel
theorem dX10_till_100 : decode t_X10_till.2.1 100 = .ok (.iinc 4 1, 3) := by decide +kernel
theorem dX10_till_103 : decode t_X10_till.2.1 103 = .ok (.goto (-58), 3) := by decide +kernel
theorem dX10_till_106 : decode t_X10_till.2.1 106 = .ok (.iload_n 3, 1) := by decide +kernel
theorem dX10_till_107 : decode t_X10_till.2.1 107 = .ok (.ifCond .ne 9, 3) := by decide +kernel
theorem dX10_till_110 : decode t_X10_till.2.1 110 = .ok (.aload_n 0, 1) := by decide +kernel
theorem dX10_till_111 : decode t_X10_till.2.1 111 = .ok (.iconst 3, 1) := by decide +kernel
theorem dX10_till_112 : decode t_X10_till.2.1 112 = .ok (.invokevirtual 111, 3) := by decide +kernel
theorem iX10_till_112 : wm_iv t_X10_till t_X10_meets 112 := ⟨111, wd_1270, dX10_till_112⟩
theorem dX10_till_115 : decode t_X10_till.2.1 115 = .ok (.ireturn, 1) := by decide +kernel
theorem dX10_till_116 : decode t_X10_till.2.1 116 = .ok (.aload_n 0, 1) := by decide +kernel
theorem dX10_till_117 : decode t_X10_till.2.1 117 = .ok (.getfield 167, 3) := by decide +kernel
theorem gX10_till_117 : wm_gf t_X10_till 117 10 18 := ⟨_, _, _, 167, rfl, by decide, wd_1132, dX10_till_117⟩
theorem dX10_till_120 : decode t_X10_till.2.1 120 = .ok (.aload_n 0, 1) := by decide +kernel
theorem dX10_till_121 : decode t_X10_till.2.1 121 = .ok (.getfield 13, 3) := by decide +kernel
theorem gX10_till_121 : wm_gf t_X10_till 121 10 5 := ⟨_, _, _, 13, rfl, by decide, wd_1119, dX10_till_121⟩
theorem dX10_till_124 : decode t_X10_till.2.1 124 = .ok (.iload_n 1, 1) := by decide +kernel
theorem dX10_till_125 : decode t_X10_till.2.1 125 = .ok (.iaload, 1) := by decide +kernel
theorem dX10_till_126 : decode t_X10_till.2.1 126 = .ok (.iadd, 1) := by decide +kernel
theorem dX10_till_127 : decode t_X10_till.2.1 127 = .ok (.sipush 999, 3) := by decide +kernel
theorem dX10_till_130 : decode t_X10_till.2.1 130 = .ok (.if_icmp .le 6, 3) := by decide +kernel
theorem dX10_till_133 : decode t_X10_till.2.1 133 = .ok (.bipush (-6), 2) := by decide +kernel
theorem dX10_till_135 : decode t_X10_till.2.1 135 = .ok (.ireturn, 1) := by decide +kernel
theorem dX10_till_136 : decode t_X10_till.2.1 136 = .ok (.aload_n 0, 1) := by decide +kernel
theorem dX10_till_137 : decode t_X10_till.2.1 137 = .ok (.getfield 13, 3) := by decide +kernel
theorem gX10_till_137 : wm_gf t_X10_till 137 10 5 := ⟨_, _, _, 13, rfl, by decide, wd_1119, dX10_till_137⟩
theorem dX10_till_140 : decode t_X10_till.2.1 140 = .ok (.iload_n 1, 1) := by decide +kernel
theorem dX10_till_141 : decode t_X10_till.2.1 141 = .ok (.iaload, 1) := by decide +kernel
theorem dX10_till_142 : decode t_X10_till.2.1 142 = .ok (.istore 4, 2) := by decide +kernel
theorem dX10_till_144 : decode t_X10_till.2.1 144 = .ok (.iconst 0, 1) := by decide +kernel
theorem dX10_till_145 : decode t_X10_till.2.1 145 = .ok (.istore 5, 2) := by decide +kernel
theorem dX10_till_147 : decode t_X10_till.2.1 147 = .ok (.iload 5, 2) := by decide +kernel
theorem dX10_till_149 : decode t_X10_till.2.1 149 = .ok (.iload 4, 2) := by decide +kernel
theorem dX10_till_151 : decode t_X10_till.2.1 151 = .ok (.if_icmp .gt 43, 3) := by decide +kernel
theorem dX10_till_154 : decode t_X10_till.2.1 154 = .ok (.aload_n 0, 1) := by decide +kernel
theorem dX10_till_155 : decode t_X10_till.2.1 155 = .ok (.invokevirtual 225, 3) := by decide +kernel
theorem iX10_till_155 : wm_iv t_X10_till t_X10_layNow 155 := ⟨225, wd_1389, dX10_till_155⟩
theorem dX10_till_158 : decode t_X10_till.2.1 158 = .ok (.aload_n 0, 1) := by decide +kernel
theorem dX10_till_159 : decode t_X10_till.2.1 159 = .ok (.iload_n 2, 1) := by decide +kernel
theorem dX10_till_160 : decode t_X10_till.2.1 160 = .ok (.invokevirtual 219, 3) := by decide +kernel
theorem iX10_till_160 : wm_iv t_X10_till t_X10_readBest 160 := ⟨219, wd_1425, dX10_till_160⟩
theorem dX10_till_163 : decode t_X10_till.2.1 163 = .ok (.iconst 1, 1) := by decide +kernel
theorem dX10_till_164 : decode t_X10_till.2.1 164 = .ok (.if_icmp .le 6, 3) := by decide +kernel
theorem dX10_till_167 : decode t_X10_till.2.1 167 = .ok (.iload 5, 2) := by decide +kernel
theorem dX10_till_169 : decode t_X10_till.2.1 169 = .ok (.ireturn, 1) := by decide +kernel
theorem dX10_till_170 : decode t_X10_till.2.1 170 = .ok (.iload 5, 2) := by decide +kernel
theorem dX10_till_172 : decode t_X10_till.2.1 172 = .ok (.iload 4, 2) := by decide +kernel
theorem dX10_till_174 : decode t_X10_till.2.1 174 = .ok (.if_icmp .ge 14, 3) := by decide +kernel
theorem dX10_till_177 : decode t_X10_till.2.1 177 = .ok (.aload_n 0, 1) := by decide +kernel
theorem dX10_till_178 : decode t_X10_till.2.1 178 = .ok (.aload_n 0, 1) := by decide +kernel
theorem dX10_till_179 : decode t_X10_till.2.1 179 = .ok (.iload_n 1, 1) := by decide +kernel
theorem dX10_till_180 : decode t_X10_till.2.1 180 = .ok (.iload 5, 2) := by decide +kernel
theorem dX10_till_182 : decode t_X10_till.2.1 182 = .ok (.invokevirtual 115, 3) := by decide +kernel
theorem iX10_till_182 : wm_iv t_X10_till t_X10_rowAt 182 := ⟨115, wd_1278, dX10_till_182⟩
theorem dX10_till_185 : decode t_X10_till.2.1 185 = .ok (.invokevirtual 237, 3) := by decide +kernel
theorem iX10_till_185 : wm_iv t_X10_till t_X10_turns 185 := ⟨237, wd_1445, dX10_till_185⟩
theorem dX10_till_188 : decode t_X10_till.2.1 188 = .ok (.iinc 5 1, 3) := by decide +kernel
theorem dX10_till_191 : decode t_X10_till.2.1 191 = .ok (.goto (-44), 3) := by decide +kernel
theorem dX10_till_194 : decode t_X10_till.2.1 194 = .ok (.bipush (-9), 2) := by decide +kernel
theorem dX10_till_196 : decode t_X10_till.2.1 196 = .ok (.ireturn, 1) := by decide +kernel
theorem wd_1464 : Cond.code yX10_stateNow cX10_stateNow 3 (some .int) ∈ lw_gd := List.mem_filter.mpr ⟨List.mem_of_getElem? (i := 1464) (by decide +kernel), by decide +kernel⟩
theorem wd_1463 : Cond.instanceMethod yX10_stateNow ∈ lw_gd := List.mem_filter.mpr ⟨List.mem_of_getElem? (i := 1463) (by decide +kernel), by decide +kernel⟩
theorem wd_60 : Cond.selects RX10 yX10_stateNow yX10_stateNow ∈ lw_gd := List.mem_filter.mpr ⟨List.mem_of_getElem? (i := 60) (by decide +kernel), by decide +kernel⟩
theorem vX10_stateNow : wm_calV t_X10_stateNow 0 := ⟨⟨wd_1464, wd_88, by decide +kernel, by decide +kernel, by decide +kernel⟩, wd_1463, wd_60⟩
theorem dX10_stateNow_0 : decode t_X10_stateNow.2.1 0 = .ok (.iconst 0, 1) := by decide +kernel
theorem dX10_stateNow_1 : decode t_X10_stateNow.2.1 1 = .ok (.istore_n 1, 1) := by decide +kernel
theorem dX10_stateNow_2 : decode t_X10_stateNow.2.1 2 = .ok (.iconst 0, 1) := by decide +kernel
theorem dX10_stateNow_3 : decode t_X10_stateNow.2.1 3 = .ok (.istore_n 2, 1) := by decide +kernel
theorem dX10_stateNow_4 : decode t_X10_stateNow.2.1 4 = .ok (.iload_n 2, 1) := by decide +kernel
theorem dX10_stateNow_5 : decode t_X10_stateNow.2.1 5 = .ok (.aload_n 0, 1) := by decide +kernel
theorem dX10_stateNow_6 : decode t_X10_stateNow.2.1 6 = .ok (.getfield 164, 3) := by decide +kernel
theorem gX10_stateNow_6 : wm_gf t_X10_stateNow 6 10 12 := ⟨_, _, _, 164, rfl, by decide, wd_1126, dX10_stateNow_6⟩
theorem dX10_stateNow_9 : decode t_X10_stateNow.2.1 9 = .ok (.if_icmp .ge 22, 3) := by decide +kernel
theorem dX10_stateNow_12 : decode t_X10_stateNow.2.1 12 = .ok (.iload_n 1, 1) := by decide +kernel
theorem dX10_stateNow_13 : decode t_X10_stateNow.2.1 13 = .ok (.aload_n 0, 1) := by decide +kernel
theorem dX10_stateNow_14 : decode t_X10_stateNow.2.1 14 = .ok (.getfield 41, 3) := by decide +kernel
theorem gX10_stateNow_14 : wm_gf t_X10_stateNow 14 10 17 := ⟨_, _, _, 41, rfl, by decide, wd_1131, dX10_stateNow_14⟩
theorem dX10_stateNow_17 : decode t_X10_stateNow.2.1 17 = .ok (.iload_n 2, 1) := by decide +kernel
theorem dX10_stateNow_18 : decode t_X10_stateNow.2.1 18 = .ok (.iaload, 1) := by decide +kernel
theorem dX10_stateNow_19 : decode t_X10_stateNow.2.1 19 = .ok (.iconst 2, 1) := by decide +kernel
theorem dX10_stateNow_20 : decode t_X10_stateNow.2.1 20 = .ok (.iload_n 2, 1) := by decide +kernel
theorem dX10_stateNow_21 : decode t_X10_stateNow.2.1 21 = .ok (.imul, 1) := by decide +kernel
theorem dX10_stateNow_22 : decode t_X10_stateNow.2.1 22 = .ok (.ishl, 1) := by decide +kernel
theorem dX10_stateNow_23 : decode t_X10_stateNow.2.1 23 = .ok (.iadd, 1) := by decide +kernel
theorem dX10_stateNow_24 : decode t_X10_stateNow.2.1 24 = .ok (.istore_n 1, 1) := by decide +kernel
theorem dX10_stateNow_25 : decode t_X10_stateNow.2.1 25 = .ok (.iinc 2 1, 3) := by decide +kernel
theorem dX10_stateNow_28 : decode t_X10_stateNow.2.1 28 = .ok (.goto (-24), 3) := by decide +kernel
theorem dX10_stateNow_31 : decode t_X10_stateNow.2.1 31 = .ok (.iload_n 1, 1) := by decide +kernel
theorem dX10_stateNow_32 : decode t_X10_stateNow.2.1 32 = .ok (.ireturn, 1) := by decide +kernel
theorem wd_1460 : Cond.code yX10_keep cX10_keep 2 (some .int) ∈ lw_gd := List.mem_filter.mpr ⟨List.mem_of_getElem? (i := 1460) (by decide +kernel), by decide +kernel⟩
theorem wd_1458 : Cond.instanceMethod yX10_keep ∈ lw_gd := List.mem_filter.mpr ⟨List.mem_of_getElem? (i := 1458) (by decide +kernel), by decide +kernel⟩
theorem wd_1459 : Cond.selects RX10 yX10_keep yX10_keep ∈ lw_gd := List.mem_filter.mpr ⟨List.mem_of_getElem? (i := 1459) (by decide +kernel), by decide +kernel⟩
theorem vX10_keep : wm_calV t_X10_keep 1 := ⟨⟨wd_1460, wd_88, by decide +kernel, by decide +kernel, by decide +kernel⟩, wd_1458, wd_1459⟩
theorem dX10_keep_0 : decode t_X10_keep.2.1 0 = .ok (.iload_n 1, 1) := by decide +kernel
theorem dX10_keep_1 : decode t_X10_keep.2.1 1 = .ok (.iconst 0, 1) := by decide +kernel
theorem dX10_keep_2 : decode t_X10_keep.2.1 2 = .ok (.iconst 2, 1) := by decide +kernel
theorem dX10_keep_3 : decode t_X10_keep.2.1 3 = .ok (.invokestatic 97, 3) := by decide +kernel
theorem iX10_keep_3 : wm_is t_X10_keep t_X10_in 3 := ⟨97, wd_1248, dX10_keep_3⟩
theorem dX10_keep_6 : decode t_X10_keep.2.1 6 = .ok (.ifCond .ne 5, 3) := by decide +kernel
theorem dX10_keep_9 : decode t_X10_keep.2.1 9 = .ok (.iconst (-1), 1) := by decide +kernel
theorem dX10_keep_10 : decode t_X10_keep.2.1 10 = .ok (.ireturn, 1) := by decide +kernel
theorem dX10_keep_11 : decode t_X10_keep.2.1 11 = .ok (.aload_n 0, 1) := by decide +kernel
theorem dX10_keep_12 : decode t_X10_keep.2.1 12 = .ok (.getfield 164, 3) := by decide +kernel
theorem gX10_keep_12 : wm_gf t_X10_keep 12 10 12 := ⟨_, _, _, 164, rfl, by decide, wd_1126, dX10_keep_12⟩
theorem dX10_keep_15 : decode t_X10_keep.2.1 15 = .ok (.ifCond .ne 6, 3) := by decide +kernel
theorem dX10_keep_18 : decode t_X10_keep.2.1 18 = .ok (.bipush (-4), 2) := by decide +kernel
theorem dX10_keep_20 : decode t_X10_keep.2.1 20 = .ok (.ireturn, 1) := by decide +kernel
theorem dX10_keep_21 : decode t_X10_keep.2.1 21 = .ok (.aload_n 0, 1) := by decide +kernel
theorem dX10_keep_22 : decode t_X10_keep.2.1 22 = .ok (.getfield 56, 3) := by decide +kernel
theorem gX10_keep_22 : wm_gf t_X10_keep 22 10 28 := ⟨_, _, _, 56, rfl, by decide, wd_1142, dX10_keep_22⟩
theorem dX10_keep_25 : decode t_X10_keep.2.1 25 = .ok (.iload_n 1, 1) := by decide +kernel
theorem dX10_keep_26 : decode t_X10_keep.2.1 26 = .ok (.aload_n 0, 1) := by decide +kernel
theorem dX10_keep_27 : decode t_X10_keep.2.1 27 = .ok (.invokevirtual 241, 3) := by decide +kernel
theorem wd_1461 : Cond.methodLink RX10 241 yX10_stateNow ∈ lw_gd := List.mem_filter.mpr ⟨List.mem_of_getElem? (i := 1461) (by decide +kernel), by decide +kernel⟩
theorem iX10_keep_27 : wm_iv t_X10_keep t_X10_stateNow 27 := ⟨241, wd_1461, dX10_keep_27⟩
theorem dX10_keep_30 : decode t_X10_keep.2.1 30 = .ok (.iastore, 1) := by decide +kernel
theorem dX10_keep_31 : decode t_X10_keep.2.1 31 = .ok (.aload_n 0, 1) := by decide +kernel
theorem dX10_keep_32 : decode t_X10_keep.2.1 32 = .ok (.getfield 59, 3) := by decide +kernel
theorem wd_1143 : Cond.fieldLink RX10 59 "TurnedStonesModel" "keptYear" "[I" ∈ lw_gd := List.mem_filter.mpr ⟨List.mem_of_getElem? (i := 1143) (by decide +kernel), by decide +kernel⟩
theorem gX10_keep_32 : wm_gf t_X10_keep 32 10 29 := ⟨_, _, _, 59, rfl, by decide, wd_1143, dX10_keep_32⟩
theorem dX10_keep_35 : decode t_X10_keep.2.1 35 = .ok (.iload_n 1, 1) := by decide +kernel
theorem dX10_keep_36 : decode t_X10_keep.2.1 36 = .ok (.aload_n 0, 1) := by decide +kernel
theorem dX10_keep_37 : decode t_X10_keep.2.1 37 = .ok (.getfield 167, 3) := by decide +kernel
theorem gX10_keep_37 : wm_gf t_X10_keep 37 10 18 := ⟨_, _, _, 167, rfl, by decide, wd_1132, dX10_keep_37⟩
theorem dX10_keep_40 : decode t_X10_keep.2.1 40 = .ok (.iastore, 1) := by decide +kernel
theorem dX10_keep_41 : decode t_X10_keep.2.1 41 = .ok (.aload_n 0, 1) := by decide +kernel
theorem dX10_keep_42 : decode t_X10_keep.2.1 42 = .ok (.getfield 167, 3) := by decide +kernel
theorem gX10_keep_42 : wm_gf t_X10_keep 42 10 18 := ⟨_, _, _, 167, rfl, by decide, wd_1132, dX10_keep_42⟩
theorem dX10_keep_45 : decode t_X10_keep.2.1 45 = .ok (.ireturn, 1) := by decide +kernel
theorem wd_1468 : Cond.code yX10_on cX10_on 3 (some .int) ∈ lw_gd := List.mem_filter.mpr ⟨List.mem_of_getElem? (i := 1468) (by decide +kernel), by decide +kernel⟩
theorem wd_1466 : Cond.instanceMethod yX10_on ∈ lw_gd := List.mem_filter.mpr ⟨List.mem_of_getElem? (i := 1466) (by decide +kernel), by decide +kernel⟩
theorem wd_1467 : Cond.selects RX10 yX10_on yX10_on ∈ lw_gd := List.mem_filter.mpr ⟨List.mem_of_getElem? (i := 1467) (by decide +kernel), by decide +kernel⟩
theorem vX10_on : wm_calV t_X10_on 1 := ⟨⟨wd_1468, wd_88, by decide +kernel, by decide +kernel, by decide +kernel⟩, wd_1466, wd_1467⟩
theorem dX10_on_0 : decode t_X10_on.2.1 0 = .ok (.iload_n 1, 1) := by decide +kernel
theorem dX10_on_1 : decode t_X10_on.2.1 1 = .ok (.iconst 0, 1) := by decide +kernel
theorem dX10_on_2 : decode t_X10_on.2.1 2 = .ok (.iconst 2, 1) := by decide +kernel
theorem dX10_on_3 : decode t_X10_on.2.1 3 = .ok (.invokestatic 97, 3) := by decide +kernel
theorem iX10_on_3 : wm_is t_X10_on t_X10_in 3 := ⟨97, wd_1248, dX10_on_3⟩
theorem dX10_on_6 : decode t_X10_on.2.1 6 = .ok (.ifCond .ne 5, 3) := by decide +kernel
theorem dX10_on_9 : decode t_X10_on.2.1 9 = .ok (.iconst (-1), 1) := by decide +kernel
theorem dX10_on_10 : decode t_X10_on.2.1 10 = .ok (.ireturn, 1) := by decide +kernel
theorem dX10_on_11 : decode t_X10_on.2.1 11 = .ok (.aload_n 0, 1) := by decide +kernel
theorem dX10_on_12 : decode t_X10_on.2.1 12 = .ok (.getfield 56, 3) := by decide +kernel
theorem gX10_on_12 : wm_gf t_X10_on 12 10 28 := ⟨_, _, _, 56, rfl, by decide, wd_1142, dX10_on_12⟩
theorem dX10_on_15 : decode t_X10_on.2.1 15 = .ok (.iload_n 1, 1) := by decide +kernel
theorem dX10_on_16 : decode t_X10_on.2.1 16 = .ok (.iaload, 1) := by decide +kernel
theorem dX10_on_17 : decode t_X10_on.2.1 17 = .ok (.ifCond .ge 9, 3) := by decide +kernel
theorem dX10_on_20 : decode t_X10_on.2.1 20 = .ok (.aload_n 0, 1) := by decide +kernel
theorem dX10_on_21 : decode t_X10_on.2.1 21 = .ok (.iconst 1, 1) := by decide +kernel
theorem dX10_on_22 : decode t_X10_on.2.1 22 = .ok (.invokevirtual 111, 3) := by decide +kernel
theorem iX10_on_22 : wm_iv t_X10_on t_X10_meets 22 := ⟨111, wd_1270, dX10_on_22⟩
theorem dX10_on_25 : decode t_X10_on.2.1 25 = .ok (.ireturn, 1) := by decide +kernel
theorem dX10_on_26 : decode t_X10_on.2.1 26 = .ok (.iconst 0, 1) := by decide +kernel
theorem dX10_on_27 : decode t_X10_on.2.1 27 = .ok (.istore_n 2, 1) := by decide +kernel
theorem dX10_on_28 : decode t_X10_on.2.1 28 = .ok (.iload_n 2, 1) := by decide +kernel
theorem dX10_on_29 : decode t_X10_on.2.1 29 = .ok (.aload_n 0, 1) := by decide +kernel
theorem dX10_on_30 : decode t_X10_on.2.1 30 = .ok (.getfield 164, 3) := by decide +kernel
theorem gX10_on_30 : wm_gf t_X10_on 30 10 12 := ⟨_, _, _, 164, rfl, by decide, wd_1126, dX10_on_30⟩
theorem dX10_on_33 : decode t_X10_on.2.1 33 = .ok (.if_icmp .ge 27, 3) := by decide +kernel
theorem dX10_on_36 : decode t_X10_on.2.1 36 = .ok (.aload_n 0, 1) := by decide +kernel
theorem dX10_on_37 : decode t_X10_on.2.1 37 = .ok (.getfield 41, 3) := by decide +kernel
theorem gX10_on_37 : wm_gf t_X10_on 37 10 17 := ⟨_, _, _, 41, rfl, by decide, wd_1131, dX10_on_37⟩
theorem dX10_on_40 : decode t_X10_on.2.1 40 = .ok (.iload_n 2, 1) := by decide +kernel
theorem dX10_on_41 : decode t_X10_on.2.1 41 = .ok (.aload_n 0, 1) := by decide +kernel
theorem dX10_on_42 : decode t_X10_on.2.1 42 = .ok (.getfield 56, 3) := by decide +kernel
theorem gX10_on_42 : wm_gf t_X10_on 42 10 28 := ⟨_, _, _, 56, rfl, by decide, wd_1142, dX10_on_42⟩
theorem dX10_on_45 : decode t_X10_on.2.1 45 = .ok (.iload_n 1, 1) := by decide +kernel
theorem dX10_on_46 : decode t_X10_on.2.1 46 = .ok (.iaload, 1) := by decide +kernel
theorem dX10_on_47 : decode t_X10_on.2.1 47 = .ok (.iconst 2, 1) := by decide +kernel
theorem dX10_on_48 : decode t_X10_on.2.1 48 = .ok (.iload_n 2, 1) := by decide +kernel
theorem dX10_on_49 : decode t_X10_on.2.1 49 = .ok (.imul, 1) := by decide +kernel
theorem dX10_on_50 : decode t_X10_on.2.1 50 = .ok (.ishr, 1) := by decide +kernel
theorem dX10_on_51 : decode t_X10_on.2.1 51 = .ok (.iconst 3, 1) := by decide +kernel
theorem dX10_on_52 : decode t_X10_on.2.1 52 = .ok (.iand, 1) := by decide +kernel
theorem dX10_on_53 : decode t_X10_on.2.1 53 = .ok (.iastore, 1) := by decide +kernel
theorem dX10_on_54 : decode t_X10_on.2.1 54 = .ok (.iinc 2 1, 3) := by decide +kernel
theorem dX10_on_57 : decode t_X10_on.2.1 57 = .ok (.goto (-29), 3) := by decide +kernel
theorem dX10_on_60 : decode t_X10_on.2.1 60 = .ok (.aload_n 0, 1) := by decide +kernel
theorem dX10_on_61 : decode t_X10_on.2.1 61 = .ok (.aload_n 0, 1) := by decide +kernel
theorem dX10_on_62 : decode t_X10_on.2.1 62 = .ok (.getfield 59, 3) := by decide +kernel
theorem gX10_on_62 : wm_gf t_X10_on 62 10 29 := ⟨_, _, _, 59, rfl, by decide, wd_1143, dX10_on_62⟩
theorem dX10_on_65 : decode t_X10_on.2.1 65 = .ok (.iload_n 1, 1) := by decide +kernel
theorem dX10_on_66 : decode t_X10_on.2.1 66 = .ok (.iaload, 1) := by decide +kernel
theorem dX10_on_67 : decode t_X10_on.2.1 67 = .ok (.putfield 167, 3) := by decide +kernel
theorem gX10_on_67 : wm_pf t_X10_on 67 10 18 .int := ⟨_, _, _, 167, rfl, by decide, wd_1132, dX10_on_67, rfl, by decide +kernel⟩
theorem dX10_on_70 : decode t_X10_on.2.1 70 = .ok (.aload_n 0, 1) := by decide +kernel
theorem dX10_on_71 : decode t_X10_on.2.1 71 = .ok (.getfield 167, 3) := by decide +kernel
theorem gX10_on_71 : wm_gf t_X10_on 71 10 18 := ⟨_, _, _, 167, rfl, by decide, wd_1132, dX10_on_71⟩
theorem dX10_on_74 : decode t_X10_on.2.1 74 = .ok (.ireturn, 1) := by decide +kernel
theorem wd_1472 : Cond.code yX10_state cX10_state 1 (some .int) ∈ lw_gd := List.mem_filter.mpr ⟨List.mem_of_getElem? (i := 1472) (by decide +kernel), by decide +kernel⟩
theorem wd_1470 : Cond.instanceMethod yX10_state ∈ lw_gd := List.mem_filter.mpr ⟨List.mem_of_getElem? (i := 1470) (by decide +kernel), by decide +kernel⟩
theorem wd_1471 : Cond.selects RX10 yX10_state yX10_state ∈ lw_gd := List.mem_filter.mpr ⟨List.mem_of_getElem? (i := 1471) (by decide +kernel), by decide +kernel⟩
theorem vX10_state : wm_calV t_X10_state 0 := ⟨⟨wd_1472, wd_88, by decide +kernel, by decide +kernel, by decide +kernel⟩, wd_1470, wd_1471⟩
theorem dX10_state_0 : decode t_X10_state.2.1 0 = .ok (.aload_n 0, 1) := by decide +kernel
theorem dX10_state_1 : decode t_X10_state.2.1 1 = .ok (.aload_n 0, 1) := by decide +kernel
theorem dX10_state_2 : decode t_X10_state.2.1 2 = .ok (.getfield 167, 3) := by decide +kernel
theorem gX10_state_2 : wm_gf t_X10_state 2 10 18 := ⟨_, _, _, 167, rfl, by decide, wd_1132, dX10_state_2⟩
theorem dX10_state_5 : decode t_X10_state.2.1 5 = .ok (.aload_n 0, 1) := by decide +kernel
theorem dX10_state_6 : decode t_X10_state.2.1 6 = .ok (.invokevirtual 241, 3) := by decide +kernel
theorem iX10_state_6 : wm_iv t_X10_state t_X10_stateNow 6 := ⟨241, wd_1461, dX10_state_6⟩
theorem dX10_state_9 : decode t_X10_state.2.1 9 = .ok (.invokevirtual 119, 3) := by decide +kernel
theorem iX10_state_9 : wm_iv t_X10_state t_X10_tells 9 := ⟨119, wd_1282, dX10_state_9⟩
theorem dX10_state_12 : decode t_X10_state.2.1 12 = .ok (.ireturn, 1) := by decide +kernel
theorem wd_1491 : Cond.code yX10_stateMany cX10_stateMany 1 (some .int) ∈ lw_gd := List.mem_filter.mpr ⟨List.mem_of_getElem? (i := 1491) (by decide +kernel), by decide +kernel⟩
theorem wd_1490 : Cond.instanceMethod yX10_stateMany ∈ lw_gd := List.mem_filter.mpr ⟨List.mem_of_getElem? (i := 1490) (by decide +kernel), by decide +kernel⟩
theorem wd_63 : Cond.selects RX10 yX10_stateMany yX10_stateMany ∈ lw_gd := List.mem_filter.mpr ⟨List.mem_of_getElem? (i := 63) (by decide +kernel), by decide +kernel⟩
theorem vX10_stateMany : wm_calV t_X10_stateMany 0 := ⟨⟨wd_1491, wd_88, by decide +kernel, by decide +kernel, by decide +kernel⟩, wd_1490, wd_63⟩
theorem dX10_stateMany_0 : decode t_X10_stateMany.2.1 0 = .ok (.iconst 1, 1) := by decide +kernel
theorem dX10_stateMany_1 : decode t_X10_stateMany.2.1 1 = .ok (.iconst 2, 1) := by decide +kernel
theorem dX10_stateMany_2 : decode t_X10_stateMany.2.1 2 = .ok (.aload_n 0, 1) := by decide +kernel
theorem dX10_stateMany_3 : decode t_X10_stateMany.2.1 3 = .ok (.getfield 164, 3) := by decide +kernel
theorem gX10_stateMany_3 : wm_gf t_X10_stateMany 3 10 12 := ⟨_, _, _, 164, rfl, by decide, wd_1126, dX10_stateMany_3⟩
theorem dX10_stateMany_6 : decode t_X10_stateMany.2.1 6 = .ok (.imul, 1) := by decide +kernel
theorem dX10_stateMany_7 : decode t_X10_stateMany.2.1 7 = .ok (.ishl, 1) := by decide +kernel
theorem dX10_stateMany_8 : decode t_X10_stateMany.2.1 8 = .ok (.ireturn, 1) := by decide +kernel
theorem wd_1495 : Cond.code yX10_turnsBy cX10_turnsBy 5 (some .int) ∈ lw_gd := List.mem_filter.mpr ⟨List.mem_of_getElem? (i := 1495) (by decide +kernel), by decide +kernel⟩
theorem wd_1494 : Cond.instanceMethod yX10_turnsBy ∈ lw_gd := List.mem_filter.mpr ⟨List.mem_of_getElem? (i := 1494) (by decide +kernel), by decide +kernel⟩
theorem wd_64 : Cond.selects RX10 yX10_turnsBy yX10_turnsBy ∈ lw_gd := List.mem_filter.mpr ⟨List.mem_of_getElem? (i := 64) (by decide +kernel), by decide +kernel⟩
theorem vX10_turnsBy : wm_calV t_X10_turnsBy 3 := ⟨⟨wd_1495, wd_88, by decide +kernel, by decide +kernel, by decide +kernel⟩, wd_1494, wd_64⟩
theorem dX10_turnsBy_0 : decode t_X10_turnsBy.2.1 0 = .ok (.iload_n 3, 1) := by decide +kernel
theorem dX10_turnsBy_1 : decode t_X10_turnsBy.2.1 1 = .ok (.iload_n 2, 1) := by decide +kernel
theorem dX10_turnsBy_2 : decode t_X10_turnsBy.2.1 2 = .ok (.isub, 1) := by decide +kernel
theorem dX10_turnsBy_3 : decode t_X10_turnsBy.2.1 3 = .ok (.iconst 4, 1) := by decide +kernel
theorem dX10_turnsBy_4 : decode t_X10_turnsBy.2.1 4 = .ok (.iadd, 1) := by decide +kernel
theorem dX10_turnsBy_5 : decode t_X10_turnsBy.2.1 5 = .ok (.iconst 4, 1) := by decide +kernel
theorem dX10_turnsBy_6 : decode t_X10_turnsBy.2.1 6 = .ok (.irem, 1) := by decide +kernel
theorem dX10_turnsBy_7 : decode t_X10_turnsBy.2.1 7 = .ok (.istore 4, 2) := by decide +kernel
theorem dX10_turnsBy_9 : decode t_X10_turnsBy.2.1 9 = .ok (.aload_n 0, 1) := by decide +kernel
theorem dX10_turnsBy_10 : decode t_X10_turnsBy.2.1 10 = .ok (.iload_n 1, 1) := by decide +kernel
theorem dX10_turnsBy_11 : decode t_X10_turnsBy.2.1 11 = .ok (.invokevirtual 234, 3) := by decide +kernel
theorem iX10_turnsBy_11 : wm_iv t_X10_turnsBy t_X10_isFixed 11 := ⟨234, wd_1441, dX10_turnsBy_11⟩
theorem dX10_turnsBy_14 : decode t_X10_turnsBy.2.1 14 = .ok (.ifCond .eq 14, 3) := by decide +kernel
theorem dX10_turnsBy_17 : decode t_X10_turnsBy.2.1 17 = .ok (.iload 4, 2) := by decide +kernel
theorem dX10_turnsBy_19 : decode t_X10_turnsBy.2.1 19 = .ok (.ifCond .ne 7, 3) := by decide +kernel
theorem dX10_turnsBy_22 : decode t_X10_turnsBy.2.1 22 = .ok (.iconst 0, 1) := by decide +kernel
theorem dX10_turnsBy_23 : decode t_X10_turnsBy.2.1 23 = .ok (.goto 4, 3) := by decide +kernel
theorem dX10_turnsBy_26 : decode t_X10_turnsBy.2.1 26 = .ok (.iconst (-1), 1) := by decide +kernel
theorem dX10_turnsBy_27 : decode t_X10_turnsBy.2.1 27 = .ok (.ireturn, 1) := by decide +kernel
theorem dX10_turnsBy_28 : decode t_X10_turnsBy.2.1 28 = .ok (.aload_n 0, 1) := by decide +kernel
theorem dX10_turnsBy_29 : decode t_X10_turnsBy.2.1 29 = .ok (.getfield 29, 3) := by decide +kernel
theorem gX10_turnsBy_29 : wm_gf t_X10_turnsBy 29 10 13 := ⟨_, _, _, 29, rfl, by decide, wd_1127, dX10_turnsBy_29⟩
theorem dX10_turnsBy_32 : decode t_X10_turnsBy.2.1 32 = .ok (.iload_n 1, 1) := by decide +kernel
theorem dX10_turnsBy_33 : decode t_X10_turnsBy.2.1 33 = .ok (.iaload, 1) := by decide +kernel
theorem dX10_turnsBy_34 : decode t_X10_turnsBy.2.1 34 = .ok (.iconst 3, 1) := by decide +kernel
theorem dX10_turnsBy_35 : decode t_X10_turnsBy.2.1 35 = .ok (.if_icmp .ne 21, 3) := by decide +kernel
theorem dX10_turnsBy_38 : decode t_X10_turnsBy.2.1 38 = .ok (.iload 4, 2) := by decide +kernel
theorem dX10_turnsBy_40 : decode t_X10_turnsBy.2.1 40 = .ok (.iconst 2, 1) := by decide +kernel
theorem dX10_turnsBy_41 : decode t_X10_turnsBy.2.1 41 = .ok (.irem, 1) := by decide +kernel
theorem dX10_turnsBy_42 : decode t_X10_turnsBy.2.1 42 = .ok (.ifCond .ne 10, 3) := by decide +kernel
theorem dX10_turnsBy_45 : decode t_X10_turnsBy.2.1 45 = .ok (.iload 4, 2) := by decide +kernel
theorem dX10_turnsBy_47 : decode t_X10_turnsBy.2.1 47 = .ok (.iconst 2, 1) := by decide +kernel
theorem dX10_turnsBy_48 : decode t_X10_turnsBy.2.1 48 = .ok (.idiv, 1) := by decide +kernel
theorem dX10_turnsBy_49 : decode t_X10_turnsBy.2.1 49 = .ok (.goto 9, 3) := by decide +kernel
theorem dX10_turnsBy_52 : decode t_X10_turnsBy.2.1 52 = .ok (.iconst (-1), 1) := by decide +kernel
theorem dX10_turnsBy_53 : decode t_X10_turnsBy.2.1 53 = .ok (.goto 5, 3) := by decide +kernel
theorem dX10_turnsBy_56 : decode t_X10_turnsBy.2.1 56 = .ok (.iload 4, 2) := by decide +kernel
theorem dX10_turnsBy_58 : decode t_X10_turnsBy.2.1 58 = .ok (.ireturn, 1) := by decide +kernel
theorem wd_1487 : Cond.code yX10_layTurns cX10_layTurns 5 (none) ∈ lw_gd := List.mem_filter.mpr ⟨List.mem_of_getElem? (i := 1487) (by decide +kernel), by decide +kernel⟩
theorem wd_1486 : Cond.instanceMethod yX10_layTurns ∈ lw_gd := List.mem_filter.mpr ⟨List.mem_of_getElem? (i := 1486) (by decide +kernel), by decide +kernel⟩
theorem wd_62 : Cond.selects RX10 yX10_layTurns yX10_layTurns ∈ lw_gd := List.mem_filter.mpr ⟨List.mem_of_getElem? (i := 62) (by decide +kernel), by decide +kernel⟩
theorem vX10_layTurns : wm_calV t_X10_layTurns 0 := ⟨⟨wd_1487, wd_88, by decide +kernel, by decide +kernel, by decide +kernel⟩, wd_1486, wd_62⟩
theorem dX10_layTurns_0 : decode t_X10_layTurns.2.1 0 = .ok (.iconst 0, 1) := by decide +kernel
theorem dX10_layTurns_1 : decode t_X10_layTurns.2.1 1 = .ok (.istore_n 1, 1) := by decide +kernel
theorem dX10_layTurns_2 : decode t_X10_layTurns.2.1 2 = .ok (.iload_n 1, 1) := by decide +kernel
theorem dX10_layTurns_3 : decode t_X10_layTurns.2.1 3 = .ok (.aload_n 0, 1) := by decide +kernel
theorem dX10_layTurns_4 : decode t_X10_layTurns.2.1 4 = .ok (.invokevirtual 244, 3) := by decide +kernel
theorem wd_1488 : Cond.methodLink RX10 244 yX10_stateMany ∈ lw_gd := List.mem_filter.mpr ⟨List.mem_of_getElem? (i := 1488) (by decide +kernel), by decide +kernel⟩
theorem iX10_layTurns_4 : wm_iv t_X10_layTurns t_X10_stateMany 4 := ⟨244, wd_1488, dX10_layTurns_4⟩
theorem dX10_layTurns_7 : decode t_X10_layTurns.2.1 7 = .ok (.if_icmp .ge 72, 3) := by decide +kernel
theorem dX10_layTurns_10 : decode t_X10_layTurns.2.1 10 = .ok (.iconst 0, 1) := by decide +kernel
theorem dX10_layTurns_11 : decode t_X10_layTurns.2.1 11 = .ok (.istore_n 2, 1) := by decide +kernel
theorem dX10_layTurns_12 : decode t_X10_layTurns.2.1 12 = .ok (.iconst 0, 1) := by decide +kernel
theorem dX10_layTurns_13 : decode t_X10_layTurns.2.1 13 = .ok (.istore_n 3, 1) := by decide +kernel
theorem dX10_layTurns_14 : decode t_X10_layTurns.2.1 14 = .ok (.iload_n 3, 1) := by decide +kernel
theorem dX10_layTurns_15 : decode t_X10_layTurns.2.1 15 = .ok (.aload_n 0, 1) := by decide +kernel
theorem dX10_layTurns_16 : decode t_X10_layTurns.2.1 16 = .ok (.getfield 164, 3) := by decide +kernel
theorem gX10_layTurns_16 : wm_gf t_X10_layTurns 16 10 12 := ⟨_, _, _, 164, rfl, by decide, wd_1126, dX10_layTurns_16⟩
theorem dX10_layTurns_19 : decode t_X10_layTurns.2.1 19 = .ok (.if_icmp .ge 47, 3) := by decide +kernel
theorem dX10_layTurns_22 : decode t_X10_layTurns.2.1 22 = .ok (.aload_n 0, 1) := by decide +kernel
theorem dX10_layTurns_23 : decode t_X10_layTurns.2.1 23 = .ok (.iload_n 3, 1) := by decide +kernel
theorem dX10_layTurns_24 : decode t_X10_layTurns.2.1 24 = .ok (.aload_n 0, 1) := by decide +kernel
theorem dX10_layTurns_25 : decode t_X10_layTurns.2.1 25 = .ok (.getfield 41, 3) := by decide +kernel
theorem gX10_layTurns_25 : wm_gf t_X10_layTurns 25 10 17 := ⟨_, _, _, 41, rfl, by decide, wd_1131, dX10_layTurns_25⟩
theorem dX10_layTurns_28 : decode t_X10_layTurns.2.1 28 = .ok (.iload_n 3, 1) := by decide +kernel
theorem dX10_layTurns_29 : decode t_X10_layTurns.2.1 29 = .ok (.iaload, 1) := by decide +kernel
theorem dX10_layTurns_30 : decode t_X10_layTurns.2.1 30 = .ok (.iload_n 1, 1) := by decide +kernel
theorem dX10_layTurns_31 : decode t_X10_layTurns.2.1 31 = .ok (.iconst 2, 1) := by decide +kernel
theorem dX10_layTurns_32 : decode t_X10_layTurns.2.1 32 = .ok (.iload_n 3, 1) := by decide +kernel
theorem dX10_layTurns_33 : decode t_X10_layTurns.2.1 33 = .ok (.imul, 1) := by decide +kernel
theorem dX10_layTurns_34 : decode t_X10_layTurns.2.1 34 = .ok (.ishr, 1) := by decide +kernel
theorem dX10_layTurns_35 : decode t_X10_layTurns.2.1 35 = .ok (.iconst 3, 1) := by decide +kernel
theorem dX10_layTurns_36 : decode t_X10_layTurns.2.1 36 = .ok (.iand, 1) := by decide +kernel
theorem dX10_layTurns_37 : decode t_X10_layTurns.2.1 37 = .ok (.invokevirtual 247, 3) := by decide +kernel
theorem wd_1492 : Cond.methodLink RX10 247 yX10_turnsBy ∈ lw_gd := List.mem_filter.mpr ⟨List.mem_of_getElem? (i := 1492) (by decide +kernel), by decide +kernel⟩
theorem iX10_layTurns_37 : wm_iv t_X10_layTurns t_X10_turnsBy 37 := ⟨247, wd_1492, dX10_layTurns_37⟩
theorem dX10_layTurns_40 : decode t_X10_layTurns.2.1 40 = .ok (.istore 4, 2) := by decide +kernel
theorem dX10_layTurns_42 : decode t_X10_layTurns.2.1 42 = .ok (.iload_n 2, 1) := by decide +kernel
theorem dX10_layTurns_43 : decode t_X10_layTurns.2.1 43 = .ok (.ifCond .lt 8, 3) := by decide +kernel
theorem dX10_layTurns_46 : decode t_X10_layTurns.2.1 46 = .ok (.iload 4, 2) := by decide +kernel
theorem dX10_layTurns_48 : decode t_X10_layTurns.2.1 48 = .ok (.ifCond .ge 7, 3) := by decide +kernel
theorem dX10_layTurns_51 : decode t_X10_layTurns.2.1 51 = .ok (.iconst (-1), 1) := by decide +kernel
theorem dX10_layTurns_52 : decode t_X10_layTurns.2.1 52 = .ok (.goto 7, 3) := by decide +kernel
theorem dX10_layTurns_55 : decode t_X10_layTurns.2.1 55 = .ok (.iload_n 2, 1) := by decide +kernel
theorem dX10_layTurns_56 : decode t_X10_layTurns.2.1 56 = .ok (.iload 4, 2) := by decide +kernel
theorem dX10_layTurns_58 : decode t_X10_layTurns.2.1 58 = .ok (.iadd, 1) := by decide +kernel
theorem dX10_layTurns_59 : decode t_X10_layTurns.2.1 59 = .ok (.istore_n 2, 1) := by decide +kernel
theorem dX10_layTurns_60 : decode t_X10_layTurns.2.1 60 = .ok (.iinc 3 1, 3) := by decide +kernel
theorem dX10_layTurns_63 : decode t_X10_layTurns.2.1 63 = .ok (.goto (-49), 3) := by decide +kernel
theorem dX10_layTurns_66 : decode t_X10_layTurns.2.1 66 = .ok (.aload_n 0, 1) := by decide +kernel
theorem dX10_layTurns_67 : decode t_X10_layTurns.2.1 67 = .ok (.getfield 62, 3) := by decide +kernel
theorem wd_1144 : Cond.fieldLink RX10 62 "TurnedStonesModel" "turnsTo" "[I" ∈ lw_gd := List.mem_filter.mpr ⟨List.mem_of_getElem? (i := 1144) (by decide +kernel), by decide +kernel⟩
theorem gX10_layTurns_67 : wm_gf t_X10_layTurns 67 10 30 := ⟨_, _, _, 62, rfl, by decide, wd_1144, dX10_layTurns_67⟩
theorem dX10_layTurns_70 : decode t_X10_layTurns.2.1 70 = .ok (.iload_n 1, 1) := by decide +kernel
theorem dX10_layTurns_71 : decode t_X10_layTurns.2.1 71 = .ok (.iload_n 2, 1) := by decide +kernel
theorem dX10_layTurns_72 : decode t_X10_layTurns.2.1 72 = .ok (.iastore, 1) := by decide +kernel
theorem dX10_layTurns_73 : decode t_X10_layTurns.2.1 73 = .ok (.iinc 1 1, 3) := by decide +kernel
theorem dX10_layTurns_76 : decode t_X10_layTurns.2.1 76 = .ok (.goto (-74), 3) := by decide +kernel
theorem dX10_layTurns_79 : decode t_X10_layTurns.2.1 79 = .ok (.return_, 1) := by decide +kernel
theorem wd_1499 : Cond.code yX10_layStands cX10_layStands 3 (none) ∈ lw_gd := List.mem_filter.mpr ⟨List.mem_of_getElem? (i := 1499) (by decide +kernel), by decide +kernel⟩
theorem wd_1498 : Cond.instanceMethod yX10_layStands ∈ lw_gd := List.mem_filter.mpr ⟨List.mem_of_getElem? (i := 1498) (by decide +kernel), by decide +kernel⟩
theorem wd_65 : Cond.selects RX10 yX10_layStands yX10_layStands ∈ lw_gd := List.mem_filter.mpr ⟨List.mem_of_getElem? (i := 65) (by decide +kernel), by decide +kernel⟩
theorem vX10_layStands : wm_calV t_X10_layStands 1 := ⟨⟨wd_1499, wd_88, by decide +kernel, by decide +kernel, by decide +kernel⟩, wd_1498, wd_65⟩
theorem dX10_layStands_0 : decode t_X10_layStands.2.1 0 = .ok (.iconst 0, 1) := by decide +kernel
theorem dX10_layStands_1 : decode t_X10_layStands.2.1 1 = .ok (.istore_n 2, 1) := by decide +kernel
theorem dX10_layStands_2 : decode t_X10_layStands.2.1 2 = .ok (.iload_n 2, 1) := by decide +kernel
theorem dX10_layStands_3 : decode t_X10_layStands.2.1 3 = .ok (.aload_n 0, 1) := by decide +kernel
theorem dX10_layStands_4 : decode t_X10_layStands.2.1 4 = .ok (.invokevirtual 244, 3) := by decide +kernel
theorem iX10_layStands_4 : wm_iv t_X10_layStands t_X10_stateMany 4 := ⟨244, wd_1488, dX10_layStands_4⟩
theorem dX10_layStands_7 : decode t_X10_layStands.2.1 7 = .ok (.if_icmp .ge 37, 3) := by decide +kernel
theorem dX10_layStands_10 : decode t_X10_layStands.2.1 10 = .ok (.iload_n 1, 1) := by decide +kernel
theorem dX10_layStands_11 : decode t_X10_layStands.2.1 11 = .ok (.ifCond .ne 12, 3) := by decide +kernel
theorem dX10_layStands_14 : decode t_X10_layStands.2.1 14 = .ok (.aload_n 0, 1) := by decide +kernel
theorem dX10_layStands_15 : decode t_X10_layStands.2.1 15 = .ok (.getfield 62, 3) := by decide +kernel
theorem gX10_layStands_15 : wm_gf t_X10_layStands 15 10 30 := ⟨_, _, _, 62, rfl, by decide, wd_1144, dX10_layStands_15⟩
theorem dX10_layStands_18 : decode t_X10_layStands.2.1 18 = .ok (.iload_n 2, 1) := by decide +kernel
theorem dX10_layStands_19 : decode t_X10_layStands.2.1 19 = .ok (.iaload, 1) := by decide +kernel
theorem dX10_layStands_20 : decode t_X10_layStands.2.1 20 = .ok (.ifCond .lt 18, 3) := by decide +kernel
theorem dX10_layStands_23 : decode t_X10_layStands.2.1 23 = .ok (.aload_n 0, 1) := by decide +kernel
theorem dX10_layStands_24 : decode t_X10_layStands.2.1 24 = .ok (.iload_n 2, 1) := by decide +kernel
theorem dX10_layStands_25 : decode t_X10_layStands.2.1 25 = .ok (.invokevirtual 250, 3) := by decide +kernel
theorem wd_1500 : Cond.methodLink RX10 250 yX10_layState ∈ lw_gd := List.mem_filter.mpr ⟨List.mem_of_getElem? (i := 1500) (by decide +kernel), by decide +kernel⟩
theorem iX10_layStands_25 : wm_iv t_X10_layStands t_X10_layState 25 := ⟨250, wd_1500, dX10_layStands_25⟩
theorem dX10_layStands_28 : decode t_X10_layStands.2.1 28 = .ok (.aload_n 0, 1) := by decide +kernel
theorem dX10_layStands_29 : decode t_X10_layStands.2.1 29 = .ok (.getfield 65, 3) := by decide +kernel
theorem wd_1145 : Cond.fieldLink RX10 65 "TurnedStonesModel" "standsIn" "[I" ∈ lw_gd := List.mem_filter.mpr ⟨List.mem_of_getElem? (i := 1145) (by decide +kernel), by decide +kernel⟩
theorem gX10_layStands_29 : wm_gf t_X10_layStands 29 10 31 := ⟨_, _, _, 65, rfl, by decide, wd_1145, dX10_layStands_29⟩
theorem dX10_layStands_32 : decode t_X10_layStands.2.1 32 = .ok (.iload_n 2, 1) := by decide +kernel
theorem dX10_layStands_33 : decode t_X10_layStands.2.1 33 = .ok (.aload_n 0, 1) := by decide +kernel
theorem dX10_layStands_34 : decode t_X10_layStands.2.1 34 = .ok (.invokevirtual 228, 3) := by decide +kernel
theorem iX10_layStands_34 : wm_iv t_X10_layStands t_X10_standing 34 := ⟨228, wd_1433, dX10_layStands_34⟩
theorem dX10_layStands_37 : decode t_X10_layStands.2.1 37 = .ok (.iastore, 1) := by decide +kernel
theorem dX10_layStands_38 : decode t_X10_layStands.2.1 38 = .ok (.iinc 2 1, 3) := by decide +kernel
theorem dX10_layStands_41 : decode t_X10_layStands.2.1 41 = .ok (.goto (-39), 3) := by decide +kernel
theorem dX10_layStands_44 : decode t_X10_layStands.2.1 44 = .ok (.return_, 1) := by decide +kernel
theorem wd_1479 : Cond.code yX10_isSet cX10_isSet 1 (some .boolean) ∈ lw_gd := List.mem_filter.mpr ⟨List.mem_of_getElem? (i := 1479) (by decide +kernel), by decide +kernel⟩
theorem wd_1478 : Cond.static yX10_isSet ∈ lw_gd := List.mem_filter.mpr ⟨List.mem_of_getElem? (i := 1478) (by decide +kernel), by decide +kernel⟩
theorem vX10_isSet : wm_calS t_X10_isSet 1 := ⟨⟨wd_1479, wd_88, by decide +kernel, by decide +kernel, by decide +kernel⟩, wd_1478⟩
theorem dX10_isSet_0 : decode t_X10_isSet.2.1 0 = .ok (.iload_n 0, 1) := by decide +kernel
theorem dX10_isSet_1 : decode t_X10_isSet.2.1 1 = .ok (.iconst 0, 1) := by decide +kernel
theorem dX10_isSet_2 : decode t_X10_isSet.2.1 2 = .ok (.bipush 15, 2) := by decide +kernel
theorem dX10_isSet_4 : decode t_X10_isSet.2.1 4 = .ok (.invokestatic 97, 3) := by decide +kernel
theorem iX10_isSet_4 : wm_is t_X10_isSet t_X10_in 4 := ⟨97, wd_1248, dX10_isSet_4⟩
theorem dX10_isSet_7 : decode t_X10_isSet.2.1 7 = .ok (.ireturn, 1) := by decide +kernel
theorem wd_1483 : Cond.code yX10_nearest cX10_nearest 5 (some .int) ∈ lw_gd := List.mem_filter.mpr ⟨List.mem_of_getElem? (i := 1483) (by decide +kernel), by decide +kernel⟩
theorem wd_1482 : Cond.instanceMethod yX10_nearest ∈ lw_gd := List.mem_filter.mpr ⟨List.mem_of_getElem? (i := 1482) (by decide +kernel), by decide +kernel⟩
theorem wd_61 : Cond.selects RX10 yX10_nearest yX10_nearest ∈ lw_gd := List.mem_filter.mpr ⟨List.mem_of_getElem? (i := 61) (by decide +kernel), by decide +kernel⟩
theorem vX10_nearest : wm_calV t_X10_nearest 1 := ⟨⟨wd_1483, wd_88, by decide +kernel, by decide +kernel, by decide +kernel⟩, wd_1482, wd_61⟩
theorem dX10_nearest_0 : decode t_X10_nearest.2.1 0 = .ok (.aload_n 0, 1) := by decide +kernel
theorem dX10_nearest_1 : decode t_X10_nearest.2.1 1 = .ok (.invokevirtual 253, 3) := by decide +kernel
theorem wd_1484 : Cond.methodLink RX10 253 yX10_layTurns ∈ lw_gd := List.mem_filter.mpr ⟨List.mem_of_getElem? (i := 1484) (by decide +kernel), by decide +kernel⟩
theorem iX10_nearest_1 : wm_iv t_X10_nearest t_X10_layTurns 1 := ⟨253, wd_1484, dX10_nearest_1⟩
theorem dX10_nearest_4 : decode t_X10_nearest.2.1 4 = .ok (.aload_n 0, 1) := by decide +kernel
theorem dX10_nearest_5 : decode t_X10_nearest.2.1 5 = .ok (.iconst 0, 1) := by decide +kernel
theorem dX10_nearest_6 : decode t_X10_nearest.2.1 6 = .ok (.invokevirtual 256, 3) := by decide +kernel
theorem wd_1496 : Cond.methodLink RX10 256 yX10_layStands ∈ lw_gd := List.mem_filter.mpr ⟨List.mem_of_getElem? (i := 1496) (by decide +kernel), by decide +kernel⟩
theorem iX10_nearest_6 : wm_iv t_X10_nearest t_X10_layStands 6 := ⟨256, wd_1496, dX10_nearest_6⟩
theorem dX10_nearest_9 : decode t_X10_nearest.2.1 9 = .ok (.bipush (-9), 2) := by decide +kernel
theorem dX10_nearest_11 : decode t_X10_nearest.2.1 11 = .ok (.istore_n 2, 1) := by decide +kernel
theorem dX10_nearest_12 : decode t_X10_nearest.2.1 12 = .ok (.iconst 0, 1) := by decide +kernel
theorem dX10_nearest_13 : decode t_X10_nearest.2.1 13 = .ok (.istore_n 3, 1) := by decide +kernel
theorem dX10_nearest_14 : decode t_X10_nearest.2.1 14 = .ok (.iload_n 3, 1) := by decide +kernel
theorem dX10_nearest_15 : decode t_X10_nearest.2.1 15 = .ok (.aload_n 0, 1) := by decide +kernel
theorem dX10_nearest_16 : decode t_X10_nearest.2.1 16 = .ok (.invokevirtual 244, 3) := by decide +kernel
theorem iX10_nearest_16 : wm_iv t_X10_nearest t_X10_stateMany 16 := ⟨244, wd_1488, dX10_nearest_16⟩
theorem dX10_nearest_19 : decode t_X10_nearest.2.1 19 = .ok (.if_icmp .ge 69, 3) := by decide +kernel
theorem dX10_nearest_22 : decode t_X10_nearest.2.1 22 = .ok (.aload_n 0, 1) := by decide +kernel
theorem dX10_nearest_23 : decode t_X10_nearest.2.1 23 = .ok (.getfield 62, 3) := by decide +kernel
theorem gX10_nearest_23 : wm_gf t_X10_nearest 23 10 30 := ⟨_, _, _, 62, rfl, by decide, wd_1144, dX10_nearest_23⟩
theorem dX10_nearest_26 : decode t_X10_nearest.2.1 26 = .ok (.iload_n 3, 1) := by decide +kernel
theorem dX10_nearest_27 : decode t_X10_nearest.2.1 27 = .ok (.iaload, 1) := by decide +kernel
theorem dX10_nearest_28 : decode t_X10_nearest.2.1 28 = .ok (.ifCond .lt 19, 3) := by decide +kernel
theorem dX10_nearest_31 : decode t_X10_nearest.2.1 31 = .ok (.aload_n 0, 1) := by decide +kernel
theorem dX10_nearest_32 : decode t_X10_nearest.2.1 32 = .ok (.getfield 65, 3) := by decide +kernel
theorem gX10_nearest_32 : wm_gf t_X10_nearest 32 10 31 := ⟨_, _, _, 65, rfl, by decide, wd_1145, dX10_nearest_32⟩
theorem dX10_nearest_35 : decode t_X10_nearest.2.1 35 = .ok (.iload_n 3, 1) := by decide +kernel
theorem dX10_nearest_36 : decode t_X10_nearest.2.1 36 = .ok (.iaload, 1) := by decide +kernel
theorem dX10_nearest_37 : decode t_X10_nearest.2.1 37 = .ok (.iload_n 1, 1) := by decide +kernel
theorem dX10_nearest_38 : decode t_X10_nearest.2.1 38 = .ok (.iand, 1) := by decide +kernel
theorem dX10_nearest_39 : decode t_X10_nearest.2.1 39 = .ok (.iload_n 1, 1) := by decide +kernel
theorem dX10_nearest_40 : decode t_X10_nearest.2.1 40 = .ok (.if_icmp .ne 7, 3) := by decide +kernel
theorem dX10_nearest_43 : decode t_X10_nearest.2.1 43 = .ok (.iconst 1, 1) := by decide +kernel
theorem dX10_nearest_44 : decode t_X10_nearest.2.1 44 = .ok (.goto 4, 3) := by decide +kernel
theorem dX10_nearest_47 : decode t_X10_nearest.2.1 47 = .ok (.iconst 0, 1) := by decide +kernel
theorem dX10_nearest_48 : decode t_X10_nearest.2.1 48 = .ok (.istore 4, 2) := by decide +kernel
theorem dX10_nearest_50 : decode t_X10_nearest.2.1 50 = .ok (.iload 4, 2) := by decide +kernel
theorem dX10_nearest_52 : decode t_X10_nearest.2.1 52 = .ok (.ifCond .eq 28, 3) := by decide +kernel
theorem dX10_nearest_55 : decode t_X10_nearest.2.1 55 = .ok (.iload_n 2, 1) := by decide +kernel
theorem dX10_nearest_56 : decode t_X10_nearest.2.1 56 = .ok (.bipush (-9), 2) := by decide +kernel
theorem dX10_nearest_58 : decode t_X10_nearest.2.1 58 = .ok (.if_icmp .eq 18, 3) := by decide +kernel
theorem dX10_nearest_61 : decode t_X10_nearest.2.1 61 = .ok (.aload_n 0, 1) := by decide +kernel
theorem dX10_nearest_62 : decode t_X10_nearest.2.1 62 = .ok (.getfield 62, 3) := by decide +kernel
theorem gX10_nearest_62 : wm_gf t_X10_nearest 62 10 30 := ⟨_, _, _, 62, rfl, by decide, wd_1144, dX10_nearest_62⟩
theorem dX10_nearest_65 : decode t_X10_nearest.2.1 65 = .ok (.iload_n 3, 1) := by decide +kernel
theorem dX10_nearest_66 : decode t_X10_nearest.2.1 66 = .ok (.iaload, 1) := by decide +kernel
theorem dX10_nearest_67 : decode t_X10_nearest.2.1 67 = .ok (.aload_n 0, 1) := by decide +kernel
theorem dX10_nearest_68 : decode t_X10_nearest.2.1 68 = .ok (.getfield 62, 3) := by decide +kernel
theorem gX10_nearest_68 : wm_gf t_X10_nearest 68 10 30 := ⟨_, _, _, 62, rfl, by decide, wd_1144, dX10_nearest_68⟩
theorem dX10_nearest_71 : decode t_X10_nearest.2.1 71 = .ok (.iload_n 2, 1) := by decide +kernel
theorem dX10_nearest_72 : decode t_X10_nearest.2.1 72 = .ok (.iaload, 1) := by decide +kernel
theorem dX10_nearest_73 : decode t_X10_nearest.2.1 73 = .ok (.if_icmp .ge 7, 3) := by decide +kernel
theorem dX10_nearest_76 : decode t_X10_nearest.2.1 76 = .ok (.iload_n 3, 1) := by decide +kernel
theorem dX10_nearest_77 : decode t_X10_nearest.2.1 77 = .ok (.goto 4, 3) := by decide +kernel
theorem dX10_nearest_80 : decode t_X10_nearest.2.1 80 = .ok (.iload_n 2, 1) := by decide +kernel
theorem dX10_nearest_81 : decode t_X10_nearest.2.1 81 = .ok (.istore_n 2, 1) := by decide +kernel
theorem dX10_nearest_82 : decode t_X10_nearest.2.1 82 = .ok (.iinc 3 1, 3) := by decide +kernel
theorem dX10_nearest_85 : decode t_X10_nearest.2.1 85 = .ok (.goto (-71), 3) := by decide +kernel
theorem dX10_nearest_88 : decode t_X10_nearest.2.1 88 = .ok (.iload_n 2, 1) := by decide +kernel
theorem dX10_nearest_89 : decode t_X10_nearest.2.1 89 = .ok (.ireturn, 1) := by decide +kernel
theorem wd_1476 : Cond.code yX10_years cX10_years 3 (some .int) ∈ lw_gd := List.mem_filter.mpr ⟨List.mem_of_getElem? (i := 1476) (by decide +kernel), by decide +kernel⟩
theorem wd_1474 : Cond.instanceMethod yX10_years ∈ lw_gd := List.mem_filter.mpr ⟨List.mem_of_getElem? (i := 1474) (by decide +kernel), by decide +kernel⟩
theorem wd_1475 : Cond.selects RX10 yX10_years yX10_years ∈ lw_gd := List.mem_filter.mpr ⟨List.mem_of_getElem? (i := 1475) (by decide +kernel), by decide +kernel⟩
theorem vX10_years : wm_calV t_X10_years 1 := ⟨⟨wd_1476, wd_88, by decide +kernel, by decide +kernel, by decide +kernel⟩, wd_1474, wd_1475⟩
theorem dX10_years_0 : decode t_X10_years.2.1 0 = .ok (.iload_n 1, 1) := by decide +kernel
theorem dX10_years_1 : decode t_X10_years.2.1 1 = .ok (.invokestatic 260, 3) := by decide +kernel
theorem wd_1477 : Cond.methodLink RX10 260 yX10_isSet ∈ lw_gd := List.mem_filter.mpr ⟨List.mem_of_getElem? (i := 1477) (by decide +kernel), by decide +kernel⟩
theorem iX10_years_1 : wm_is t_X10_years t_X10_isSet 1 := ⟨260, wd_1477, dX10_years_1⟩
theorem dX10_years_4 : decode t_X10_years.2.1 4 = .ok (.ifCond .ne 5, 3) := by decide +kernel
theorem dX10_years_7 : decode t_X10_years.2.1 7 = .ok (.iconst (-1), 1) := by decide +kernel
theorem dX10_years_8 : decode t_X10_years.2.1 8 = .ok (.ireturn, 1) := by decide +kernel
theorem dX10_years_9 : decode t_X10_years.2.1 9 = .ok (.aload_n 0, 1) := by decide +kernel
theorem dX10_years_10 : decode t_X10_years.2.1 10 = .ok (.iload_n 1, 1) := by decide +kernel
theorem dX10_years_11 : decode t_X10_years.2.1 11 = .ok (.invokevirtual 263, 3) := by decide +kernel
theorem wd_1480 : Cond.methodLink RX10 263 yX10_nearest ∈ lw_gd := List.mem_filter.mpr ⟨List.mem_of_getElem? (i := 1480) (by decide +kernel), by decide +kernel⟩
theorem iX10_years_11 : wm_iv t_X10_years t_X10_nearest 11 := ⟨263, wd_1480, dX10_years_11⟩
theorem dX10_years_14 : decode t_X10_years.2.1 14 = .ok (.istore_n 2, 1) := by decide +kernel
theorem dX10_years_15 : decode t_X10_years.2.1 15 = .ok (.iload_n 2, 1) := by decide +kernel
theorem dX10_years_16 : decode t_X10_years.2.1 16 = .ok (.bipush (-9), 2) := by decide +kernel
theorem dX10_years_18 : decode t_X10_years.2.1 18 = .ok (.if_icmp .ne 8, 3) := by decide +kernel
theorem dX10_years_21 : decode t_X10_years.2.1 21 = .ok (.bipush (-9), 2) := by decide +kernel
theorem dX10_years_23 : decode t_X10_years.2.1 23 = .ok (.goto 14, 3) := by decide +kernel
theorem dX10_years_26 : decode t_X10_years.2.1 26 = .ok (.aload_n 0, 1) := by decide +kernel
theorem dX10_years_27 : decode t_X10_years.2.1 27 = .ok (.iload_n 2, 1) := by decide +kernel
theorem dX10_years_28 : decode t_X10_years.2.1 28 = .ok (.aload_n 0, 1) := by decide +kernel
theorem dX10_years_29 : decode t_X10_years.2.1 29 = .ok (.getfield 62, 3) := by decide +kernel
theorem gX10_years_29 : wm_gf t_X10_years 29 10 30 := ⟨_, _, _, 62, rfl, by decide, wd_1144, dX10_years_29⟩
theorem dX10_years_32 : decode t_X10_years.2.1 32 = .ok (.iload_n 2, 1) := by decide +kernel
theorem dX10_years_33 : decode t_X10_years.2.1 33 = .ok (.iaload, 1) := by decide +kernel
theorem dX10_years_34 : decode t_X10_years.2.1 34 = .ok (.invokevirtual 119, 3) := by decide +kernel
theorem iX10_years_34 : wm_iv t_X10_years t_X10_tells 34 := ⟨119, wd_1282, dX10_years_34⟩
theorem dX10_years_37 : decode t_X10_years.2.1 37 = .ok (.ireturn, 1) := by decide +kernel
theorem wd_1511 : Cond.code yX10_layLine cX10_layLine 5 (none) ∈ lw_gd := List.mem_filter.mpr ⟨List.mem_of_getElem? (i := 1511) (by decide +kernel), by decide +kernel⟩
theorem wd_1510 : Cond.instanceMethod yX10_layLine ∈ lw_gd := List.mem_filter.mpr ⟨List.mem_of_getElem? (i := 1510) (by decide +kernel), by decide +kernel⟩
theorem wd_67 : Cond.selects RX10 yX10_layLine yX10_layLine ∈ lw_gd := List.mem_filter.mpr ⟨List.mem_of_getElem? (i := 67) (by decide +kernel), by decide +kernel⟩
theorem vX10_layLine : wm_calV t_X10_layLine 1 := ⟨⟨wd_1511, wd_88, by decide +kernel, by decide +kernel, by decide +kernel⟩, wd_1510, wd_67⟩
theorem dX10_layLine_0 : decode t_X10_layLine.2.1 0 = .ok (.aload_n 0, 1) := by decide +kernel
theorem dX10_layLine_1 : decode t_X10_layLine.2.1 1 = .ok (.iconst 0, 1) := by decide +kernel
theorem dX10_layLine_2 : decode t_X10_layLine.2.1 2 = .ok (.putfield 266, 3) := by decide +kernel
theorem wd_1147 : Cond.fieldLink RX10 266 "TurnedStonesModel" "lineMany" "I" ∈ lw_gd := List.mem_filter.mpr ⟨List.mem_of_getElem? (i := 1147) (by decide +kernel), by decide +kernel⟩
theorem gX10_layLine_2 : wm_pf t_X10_layLine 2 10 33 .int := ⟨_, _, _, 266, rfl, by decide, wd_1147, dX10_layLine_2, rfl, by decide +kernel⟩
theorem dX10_layLine_5 : decode t_X10_layLine.2.1 5 = .ok (.iconst 0, 1) := by decide +kernel
theorem dX10_layLine_6 : decode t_X10_layLine.2.1 6 = .ok (.istore_n 2, 1) := by decide +kernel
theorem dX10_layLine_7 : decode t_X10_layLine.2.1 7 = .ok (.iload_n 2, 1) := by decide +kernel
theorem dX10_layLine_8 : decode t_X10_layLine.2.1 8 = .ok (.aload_n 0, 1) := by decide +kernel
theorem dX10_layLine_9 : decode t_X10_layLine.2.1 9 = .ok (.getfield 164, 3) := by decide +kernel
theorem gX10_layLine_9 : wm_gf t_X10_layLine 9 10 12 := ⟨_, _, _, 164, rfl, by decide, wd_1126, dX10_layLine_9⟩
theorem dX10_layLine_12 : decode t_X10_layLine.2.1 12 = .ok (.if_icmp .ge 63, 3) := by decide +kernel
theorem dX10_layLine_15 : decode t_X10_layLine.2.1 15 = .ok (.aload_n 0, 1) := by decide +kernel
theorem dX10_layLine_16 : decode t_X10_layLine.2.1 16 = .ok (.iload_n 2, 1) := by decide +kernel
theorem dX10_layLine_17 : decode t_X10_layLine.2.1 17 = .ok (.aload_n 0, 1) := by decide +kernel
theorem dX10_layLine_18 : decode t_X10_layLine.2.1 18 = .ok (.getfield 41, 3) := by decide +kernel
theorem gX10_layLine_18 : wm_gf t_X10_layLine 18 10 17 := ⟨_, _, _, 41, rfl, by decide, wd_1131, dX10_layLine_18⟩
theorem dX10_layLine_21 : decode t_X10_layLine.2.1 21 = .ok (.iload_n 2, 1) := by decide +kernel
theorem dX10_layLine_22 : decode t_X10_layLine.2.1 22 = .ok (.iaload, 1) := by decide +kernel
theorem dX10_layLine_23 : decode t_X10_layLine.2.1 23 = .ok (.iload_n 1, 1) := by decide +kernel
theorem dX10_layLine_24 : decode t_X10_layLine.2.1 24 = .ok (.iconst 2, 1) := by decide +kernel
theorem dX10_layLine_25 : decode t_X10_layLine.2.1 25 = .ok (.iload_n 2, 1) := by decide +kernel
theorem dX10_layLine_26 : decode t_X10_layLine.2.1 26 = .ok (.imul, 1) := by decide +kernel
theorem dX10_layLine_27 : decode t_X10_layLine.2.1 27 = .ok (.ishr, 1) := by decide +kernel
theorem dX10_layLine_28 : decode t_X10_layLine.2.1 28 = .ok (.iconst 3, 1) := by decide +kernel
theorem dX10_layLine_29 : decode t_X10_layLine.2.1 29 = .ok (.iand, 1) := by decide +kernel
theorem dX10_layLine_30 : decode t_X10_layLine.2.1 30 = .ok (.invokevirtual 247, 3) := by decide +kernel
theorem iX10_layLine_30 : wm_iv t_X10_layLine t_X10_turnsBy 30 := ⟨247, wd_1492, dX10_layLine_30⟩
theorem dX10_layLine_33 : decode t_X10_layLine.2.1 33 = .ok (.istore_n 3, 1) := by decide +kernel
theorem dX10_layLine_34 : decode t_X10_layLine.2.1 34 = .ok (.iconst 0, 1) := by decide +kernel
theorem dX10_layLine_35 : decode t_X10_layLine.2.1 35 = .ok (.istore 4, 2) := by decide +kernel
theorem dX10_layLine_37 : decode t_X10_layLine.2.1 37 = .ok (.iload 4, 2) := by decide +kernel
theorem dX10_layLine_39 : decode t_X10_layLine.2.1 39 = .ok (.iload_n 3, 1) := by decide +kernel
theorem dX10_layLine_40 : decode t_X10_layLine.2.1 40 = .ok (.if_icmp .ge 29, 3) := by decide +kernel
theorem dX10_layLine_43 : decode t_X10_layLine.2.1 43 = .ok (.aload_n 0, 1) := by decide +kernel
theorem dX10_layLine_44 : decode t_X10_layLine.2.1 44 = .ok (.getfield 68, 3) := by decide +kernel
theorem wd_1146 : Cond.fieldLink RX10 68 "TurnedStonesModel" "line" "[I" ∈ lw_gd := List.mem_filter.mpr ⟨List.mem_of_getElem? (i := 1146) (by decide +kernel), by decide +kernel⟩
theorem gX10_layLine_44 : wm_gf t_X10_layLine 44 10 32 := ⟨_, _, _, 68, rfl, by decide, wd_1146, dX10_layLine_44⟩
theorem dX10_layLine_47 : decode t_X10_layLine.2.1 47 = .ok (.aload_n 0, 1) := by decide +kernel
theorem dX10_layLine_48 : decode t_X10_layLine.2.1 48 = .ok (.getfield 266, 3) := by decide +kernel
theorem gX10_layLine_48 : wm_gf t_X10_layLine 48 10 33 := ⟨_, _, _, 266, rfl, by decide, wd_1147, dX10_layLine_48⟩
theorem dX10_layLine_51 : decode t_X10_layLine.2.1 51 = .ok (.iload_n 2, 1) := by decide +kernel
theorem dX10_layLine_52 : decode t_X10_layLine.2.1 52 = .ok (.iastore, 1) := by decide +kernel
theorem dX10_layLine_53 : decode t_X10_layLine.2.1 53 = .ok (.aload_n 0, 1) := by decide +kernel
theorem dX10_layLine_54 : decode t_X10_layLine.2.1 54 = .ok (.dup, 1) := by decide +kernel
theorem dX10_layLine_55 : decode t_X10_layLine.2.1 55 = .ok (.getfield 266, 3) := by decide +kernel
theorem gX10_layLine_55 : wm_gf t_X10_layLine 55 10 33 := ⟨_, _, _, 266, rfl, by decide, wd_1147, dX10_layLine_55⟩
theorem dX10_layLine_58 : decode t_X10_layLine.2.1 58 = .ok (.iconst 1, 1) := by decide +kernel
theorem dX10_layLine_59 : decode t_X10_layLine.2.1 59 = .ok (.iadd, 1) := by decide +kernel
theorem dX10_layLine_60 : decode t_X10_layLine.2.1 60 = .ok (.putfield 266, 3) := by decide +kernel
theorem gX10_layLine_60 : wm_pf t_X10_layLine 60 10 33 .int := ⟨_, _, _, 266, rfl, by decide, wd_1147, dX10_layLine_60, rfl, by decide +kernel⟩
theorem dX10_layLine_63 : decode t_X10_layLine.2.1 63 = .ok (.iinc 4 1, 3) := by decide +kernel
theorem dX10_layLine_66 : decode t_X10_layLine.2.1 66 = .ok (.goto (-29), 3) := by decide +kernel
theorem dX10_layLine_69 : decode t_X10_layLine.2.1 69 = .ok (.iinc 2 1, 3) := by decide +kernel
theorem dX10_layLine_72 : decode t_X10_layLine.2.1 72 = .ok (.goto (-65), 3) := by decide +kernel
theorem dX10_layLine_75 : decode t_X10_layLine.2.1 75 = .ok (.return_, 1) := by decide +kernel
theorem wd_1507 : Cond.code yX10_way cX10_way 5 (some .int) ∈ lw_gd := List.mem_filter.mpr ⟨List.mem_of_getElem? (i := 1507) (by decide +kernel), by decide +kernel⟩
theorem wd_1505 : Cond.instanceMethod yX10_way ∈ lw_gd := List.mem_filter.mpr ⟨List.mem_of_getElem? (i := 1505) (by decide +kernel), by decide +kernel⟩
theorem wd_1506 : Cond.selects RX10 yX10_way yX10_way ∈ lw_gd := List.mem_filter.mpr ⟨List.mem_of_getElem? (i := 1506) (by decide +kernel), by decide +kernel⟩
theorem vX10_way : wm_calV t_X10_way 2 := ⟨⟨wd_1507, wd_88, by decide +kernel, by decide +kernel, by decide +kernel⟩, wd_1505, wd_1506⟩
theorem dX10_way_0 : decode t_X10_way.2.1 0 = .ok (.iload_n 1, 1) := by decide +kernel
theorem dX10_way_1 : decode t_X10_way.2.1 1 = .ok (.invokestatic 260, 3) := by decide +kernel
theorem iX10_way_1 : wm_is t_X10_way t_X10_isSet 1 := ⟨260, wd_1477, dX10_way_1⟩
theorem dX10_way_4 : decode t_X10_way.2.1 4 = .ok (.ifCond .eq 10, 3) := by decide +kernel
theorem dX10_way_7 : decode t_X10_way.2.1 7 = .ok (.iload_n 2, 1) := by decide +kernel
theorem dX10_way_8 : decode t_X10_way.2.1 8 = .ok (.invokestatic 107, 3) := by decide +kernel
theorem iX10_way_8 : wm_is t_X10_way t_X10_isRow 8 := ⟨107, wd_1267, dX10_way_8⟩
theorem dX10_way_11 : decode t_X10_way.2.1 11 = .ok (.ifCond .ne 5, 3) := by decide +kernel
theorem dX10_way_14 : decode t_X10_way.2.1 14 = .ok (.iconst (-1), 1) := by decide +kernel
theorem dX10_way_15 : decode t_X10_way.2.1 15 = .ok (.ireturn, 1) := by decide +kernel
theorem dX10_way_16 : decode t_X10_way.2.1 16 = .ok (.aload_n 0, 1) := by decide +kernel
theorem dX10_way_17 : decode t_X10_way.2.1 17 = .ok (.iload_n 1, 1) := by decide +kernel
theorem dX10_way_18 : decode t_X10_way.2.1 18 = .ok (.invokevirtual 263, 3) := by decide +kernel
theorem iX10_way_18 : wm_iv t_X10_way t_X10_nearest 18 := ⟨263, wd_1480, dX10_way_18⟩
theorem dX10_way_21 : decode t_X10_way.2.1 21 = .ok (.istore_n 3, 1) := by decide +kernel
theorem dX10_way_22 : decode t_X10_way.2.1 22 = .ok (.iload_n 3, 1) := by decide +kernel
theorem dX10_way_23 : decode t_X10_way.2.1 23 = .ok (.bipush (-9), 2) := by decide +kernel
theorem dX10_way_25 : decode t_X10_way.2.1 25 = .ok (.if_icmp .ne 6, 3) := by decide +kernel
theorem dX10_way_28 : decode t_X10_way.2.1 28 = .ok (.bipush (-9), 2) := by decide +kernel
theorem dX10_way_30 : decode t_X10_way.2.1 30 = .ok (.ireturn, 1) := by decide +kernel
theorem dX10_way_31 : decode t_X10_way.2.1 31 = .ok (.aload_n 0, 1) := by decide +kernel
theorem dX10_way_32 : decode t_X10_way.2.1 32 = .ok (.iload_n 3, 1) := by decide +kernel
theorem dX10_way_33 : decode t_X10_way.2.1 33 = .ok (.invokevirtual 269, 3) := by decide +kernel
theorem wd_1508 : Cond.methodLink RX10 269 yX10_layLine ∈ lw_gd := List.mem_filter.mpr ⟨List.mem_of_getElem? (i := 1508) (by decide +kernel), by decide +kernel⟩
theorem iX10_way_33 : wm_iv t_X10_way t_X10_layLine 33 := ⟨269, wd_1508, dX10_way_33⟩
theorem dX10_way_36 : decode t_X10_way.2.1 36 = .ok (.aload_n 0, 1) := by decide +kernel
theorem dX10_way_37 : decode t_X10_way.2.1 37 = .ok (.getfield 13, 3) := by decide +kernel
theorem gX10_way_37 : wm_gf t_X10_way 37 10 5 := ⟨_, _, _, 13, rfl, by decide, wd_1119, dX10_way_37⟩
theorem dX10_way_40 : decode t_X10_way.2.1 40 = .ok (.iload_n 2, 1) := by decide +kernel
theorem dX10_way_41 : decode t_X10_way.2.1 41 = .ok (.aload_n 0, 1) := by decide +kernel
theorem dX10_way_42 : decode t_X10_way.2.1 42 = .ok (.getfield 266, 3) := by decide +kernel
theorem gX10_way_42 : wm_gf t_X10_way 42 10 33 := ⟨_, _, _, 266, rfl, by decide, wd_1147, dX10_way_42⟩
theorem dX10_way_45 : decode t_X10_way.2.1 45 = .ok (.iastore, 1) := by decide +kernel
theorem dX10_way_46 : decode t_X10_way.2.1 46 = .ok (.iconst 0, 1) := by decide +kernel
theorem dX10_way_47 : decode t_X10_way.2.1 47 = .ok (.istore 4, 2) := by decide +kernel
theorem dX10_way_49 : decode t_X10_way.2.1 49 = .ok (.iload 4, 2) := by decide +kernel
theorem dX10_way_51 : decode t_X10_way.2.1 51 = .ok (.bipush 60, 2) := by decide +kernel
theorem dX10_way_53 : decode t_X10_way.2.1 53 = .ok (.if_icmp .ge 41, 3) := by decide +kernel
theorem dX10_way_56 : decode t_X10_way.2.1 56 = .ok (.aload_n 0, 1) := by decide +kernel
theorem dX10_way_57 : decode t_X10_way.2.1 57 = .ok (.getfield 16, 3) := by decide +kernel
theorem gX10_way_57 : wm_gf t_X10_way 57 10 6 := ⟨_, _, _, 16, rfl, by decide, wd_1120, dX10_way_57⟩
theorem dX10_way_60 : decode t_X10_way.2.1 60 = .ok (.bipush 60, 2) := by decide +kernel
theorem dX10_way_62 : decode t_X10_way.2.1 62 = .ok (.iload_n 2, 1) := by decide +kernel
theorem dX10_way_63 : decode t_X10_way.2.1 63 = .ok (.imul, 1) := by decide +kernel
theorem dX10_way_64 : decode t_X10_way.2.1 64 = .ok (.iload 4, 2) := by decide +kernel
theorem dX10_way_66 : decode t_X10_way.2.1 66 = .ok (.iadd, 1) := by decide +kernel
theorem dX10_way_67 : decode t_X10_way.2.1 67 = .ok (.iload 4, 2) := by decide +kernel
theorem dX10_way_69 : decode t_X10_way.2.1 69 = .ok (.aload_n 0, 1) := by decide +kernel
theorem dX10_way_70 : decode t_X10_way.2.1 70 = .ok (.getfield 266, 3) := by decide +kernel
theorem gX10_way_70 : wm_gf t_X10_way 70 10 33 := ⟨_, _, _, 266, rfl, by decide, wd_1147, dX10_way_70⟩
theorem dX10_way_73 : decode t_X10_way.2.1 73 = .ok (.if_icmp .ge 13, 3) := by decide +kernel
theorem dX10_way_76 : decode t_X10_way.2.1 76 = .ok (.aload_n 0, 1) := by decide +kernel
theorem dX10_way_77 : decode t_X10_way.2.1 77 = .ok (.getfield 68, 3) := by decide +kernel
theorem gX10_way_77 : wm_gf t_X10_way 77 10 32 := ⟨_, _, _, 68, rfl, by decide, wd_1146, dX10_way_77⟩
theorem dX10_way_80 : decode t_X10_way.2.1 80 = .ok (.iload 4, 2) := by decide +kernel
theorem dX10_way_82 : decode t_X10_way.2.1 82 = .ok (.iaload, 1) := by decide +kernel
theorem dX10_way_83 : decode t_X10_way.2.1 83 = .ok (.goto 4, 3) := by decide +kernel
theorem dX10_way_86 : decode t_X10_way.2.1 86 = .ok (.iconst 0, 1) := by decide +kernel
theorem dX10_way_87 : decode t_X10_way.2.1 87 = .ok (.iastore, 1) := by decide +kernel
theorem dX10_way_88 : decode t_X10_way.2.1 88 = .ok (.iinc 4 1, 3) := by decide +kernel
theorem dX10_way_91 : decode t_X10_way.2.1 91 = .ok (.goto (-42), 3) := by decide +kernel
theorem dX10_way_94 : decode t_X10_way.2.1 94 = .ok (.aload_n 0, 1) := by decide +kernel
theorem dX10_way_95 : decode t_X10_way.2.1 95 = .ok (.getfield 266, 3) := by decide +kernel
theorem gX10_way_95 : wm_gf t_X10_way 95 10 33 := ⟨_, _, _, 266, rfl, by decide, wd_1147, dX10_way_95⟩
theorem dX10_way_98 : decode t_X10_way.2.1 98 = .ok (.ireturn, 1) := by decide +kernel
theorem wd_1515 : Cond.code yX10_lost cX10_lost 7 (some .int) ∈ lw_gd := List.mem_filter.mpr ⟨List.mem_of_getElem? (i := 1515) (by decide +kernel), by decide +kernel⟩
theorem wd_1513 : Cond.instanceMethod yX10_lost ∈ lw_gd := List.mem_filter.mpr ⟨List.mem_of_getElem? (i := 1513) (by decide +kernel), by decide +kernel⟩
theorem wd_1514 : Cond.selects RX10 yX10_lost yX10_lost ∈ lw_gd := List.mem_filter.mpr ⟨List.mem_of_getElem? (i := 1514) (by decide +kernel), by decide +kernel⟩
theorem vX10_lost : wm_calV t_X10_lost 1 := ⟨⟨wd_1515, wd_88, by decide +kernel, by decide +kernel, by decide +kernel⟩, wd_1513, wd_1514⟩
theorem dX10_lost_0 : decode t_X10_lost.2.1 0 = .ok (.iload_n 1, 1) := by decide +kernel
theorem dX10_lost_1 : decode t_X10_lost.2.1 1 = .ok (.invokestatic 260, 3) := by decide +kernel
theorem iX10_lost_1 : wm_is t_X10_lost t_X10_isSet 1 := ⟨260, wd_1477, dX10_lost_1⟩
theorem dX10_lost_4 : decode t_X10_lost.2.1 4 = .ok (.ifCond .ne 5, 3) := by decide +kernel
theorem dX10_lost_7 : decode t_X10_lost.2.1 7 = .ok (.iconst (-1), 1) := by decide +kernel
theorem dX10_lost_8 : decode t_X10_lost.2.1 8 = .ok (.ireturn, 1) := by decide +kernel
theorem dX10_lost_9 : decode t_X10_lost.2.1 9 = .ok (.aload_n 0, 1) := by decide +kernel
theorem dX10_lost_10 : decode t_X10_lost.2.1 10 = .ok (.iload_n 1, 1) := by decide +kernel
theorem dX10_lost_11 : decode t_X10_lost.2.1 11 = .ok (.invokevirtual 263, 3) := by decide +kernel
theorem iX10_lost_11 : wm_iv t_X10_lost t_X10_nearest 11 := ⟨263, wd_1480, dX10_lost_11⟩
theorem dX10_lost_14 : decode t_X10_lost.2.1 14 = .ok (.istore_n 2, 1) := by decide +kernel
theorem dX10_lost_15 : decode t_X10_lost.2.1 15 = .ok (.iload_n 2, 1) := by decide +kernel
theorem dX10_lost_16 : decode t_X10_lost.2.1 16 = .ok (.bipush (-9), 2) := by decide +kernel
theorem dX10_lost_18 : decode t_X10_lost.2.1 18 = .ok (.if_icmp .ne 6, 3) := by decide +kernel
theorem dX10_lost_21 : decode t_X10_lost.2.1 21 = .ok (.bipush (-9), 2) := by decide +kernel
theorem dX10_lost_23 : decode t_X10_lost.2.1 23 = .ok (.ireturn, 1) := by decide +kernel
theorem dX10_lost_24 : decode t_X10_lost.2.1 24 = .ok (.aload_n 0, 1) := by decide +kernel
theorem dX10_lost_25 : decode t_X10_lost.2.1 25 = .ok (.iload_n 2, 1) := by decide +kernel
theorem dX10_lost_26 : decode t_X10_lost.2.1 26 = .ok (.invokevirtual 269, 3) := by decide +kernel
theorem iX10_lost_26 : wm_iv t_X10_lost t_X10_layLine 26 := ⟨269, wd_1508, dX10_lost_26⟩
theorem dX10_lost_29 : decode t_X10_lost.2.1 29 = .ok (.aload_n 0, 1) := by decide +kernel
theorem dX10_lost_30 : decode t_X10_lost.2.1 30 = .ok (.invokevirtual 225, 3) := by decide +kernel
theorem iX10_lost_30 : wm_iv t_X10_lost t_X10_layNow 30 := ⟨225, wd_1389, dX10_lost_30⟩
theorem dX10_lost_33 : decode t_X10_lost.2.1 33 = .ok (.aload_n 0, 1) := by decide +kernel
theorem dX10_lost_34 : decode t_X10_lost.2.1 34 = .ok (.invokevirtual 228, 3) := by decide +kernel
theorem iX10_lost_34 : wm_iv t_X10_lost t_X10_standing 34 := ⟨228, wd_1433, dX10_lost_34⟩
theorem dX10_lost_37 : decode t_X10_lost.2.1 37 = .ok (.istore_n 3, 1) := by decide +kernel
theorem dX10_lost_38 : decode t_X10_lost.2.1 38 = .ok (.iload_n 3, 1) := by decide +kernel
theorem dX10_lost_39 : decode t_X10_lost.2.1 39 = .ok (.istore 4, 2) := by decide +kernel
theorem dX10_lost_41 : decode t_X10_lost.2.1 41 = .ok (.iload_n 3, 1) := by decide +kernel
theorem dX10_lost_42 : decode t_X10_lost.2.1 42 = .ok (.istore 5, 2) := by decide +kernel
theorem dX10_lost_44 : decode t_X10_lost.2.1 44 = .ok (.iconst 0, 1) := by decide +kernel
theorem dX10_lost_45 : decode t_X10_lost.2.1 45 = .ok (.istore 6, 2) := by decide +kernel
theorem dX10_lost_47 : decode t_X10_lost.2.1 47 = .ok (.iload 6, 2) := by decide +kernel
theorem dX10_lost_49 : decode t_X10_lost.2.1 49 = .ok (.aload_n 0, 1) := by decide +kernel
theorem dX10_lost_50 : decode t_X10_lost.2.1 50 = .ok (.getfield 266, 3) := by decide +kernel
theorem gX10_lost_50 : wm_gf t_X10_lost 50 10 33 := ⟨_, _, _, 266, rfl, by decide, wd_1147, dX10_lost_50⟩
theorem dX10_lost_53 : decode t_X10_lost.2.1 53 = .ok (.if_icmp .ge 60, 3) := by decide +kernel
theorem dX10_lost_56 : decode t_X10_lost.2.1 56 = .ok (.aload_n 0, 1) := by decide +kernel
theorem dX10_lost_57 : decode t_X10_lost.2.1 57 = .ok (.getfield 53, 3) := by decide +kernel
theorem gX10_lost_57 : wm_gf t_X10_lost 57 10 27 := ⟨_, _, _, 53, rfl, by decide, wd_1141, dX10_lost_57⟩
theorem dX10_lost_60 : decode t_X10_lost.2.1 60 = .ok (.aload_n 0, 1) := by decide +kernel
theorem dX10_lost_61 : decode t_X10_lost.2.1 61 = .ok (.getfield 68, 3) := by decide +kernel
theorem gX10_lost_61 : wm_gf t_X10_lost 61 10 32 := ⟨_, _, _, 68, rfl, by decide, wd_1146, dX10_lost_61⟩
theorem dX10_lost_64 : decode t_X10_lost.2.1 64 = .ok (.iload 6, 2) := by decide +kernel
theorem dX10_lost_66 : decode t_X10_lost.2.1 66 = .ok (.iaload, 1) := by decide +kernel
theorem dX10_lost_67 : decode t_X10_lost.2.1 67 = .ok (.aload_n 0, 1) := by decide +kernel
theorem dX10_lost_68 : decode t_X10_lost.2.1 68 = .ok (.getfield 53, 3) := by decide +kernel
theorem gX10_lost_68 : wm_gf t_X10_lost 68 10 27 := ⟨_, _, _, 53, rfl, by decide, wd_1141, dX10_lost_68⟩
theorem dX10_lost_71 : decode t_X10_lost.2.1 71 = .ok (.aload_n 0, 1) := by decide +kernel
theorem dX10_lost_72 : decode t_X10_lost.2.1 72 = .ok (.getfield 68, 3) := by decide +kernel
theorem gX10_lost_72 : wm_gf t_X10_lost 72 10 32 := ⟨_, _, _, 68, rfl, by decide, wd_1146, dX10_lost_72⟩
theorem dX10_lost_75 : decode t_X10_lost.2.1 75 = .ok (.iload 6, 2) := by decide +kernel
theorem dX10_lost_77 : decode t_X10_lost.2.1 77 = .ok (.iaload, 1) := by decide +kernel
theorem dX10_lost_78 : decode t_X10_lost.2.1 78 = .ok (.iaload, 1) := by decide +kernel
theorem dX10_lost_79 : decode t_X10_lost.2.1 79 = .ok (.aload_n 0, 1) := by decide +kernel
theorem dX10_lost_80 : decode t_X10_lost.2.1 80 = .ok (.aload_n 0, 1) := by decide +kernel
theorem dX10_lost_81 : decode t_X10_lost.2.1 81 = .ok (.getfield 68, 3) := by decide +kernel
theorem gX10_lost_81 : wm_gf t_X10_lost 81 10 32 := ⟨_, _, _, 68, rfl, by decide, wd_1146, dX10_lost_81⟩
theorem dX10_lost_84 : decode t_X10_lost.2.1 84 = .ok (.iload 6, 2) := by decide +kernel
theorem dX10_lost_86 : decode t_X10_lost.2.1 86 = .ok (.iaload, 1) := by decide +kernel
theorem dX10_lost_87 : decode t_X10_lost.2.1 87 = .ok (.invokevirtual 231, 3) := by decide +kernel
theorem iX10_lost_87 : wm_iv t_X10_lost t_X10_stepOf 87 := ⟨231, wd_1449, dX10_lost_87⟩
theorem dX10_lost_90 : decode t_X10_lost.2.1 90 = .ok (.iadd, 1) := by decide +kernel
theorem dX10_lost_91 : decode t_X10_lost.2.1 91 = .ok (.iconst 4, 1) := by decide +kernel
theorem dX10_lost_92 : decode t_X10_lost.2.1 92 = .ok (.irem, 1) := by decide +kernel
theorem dX10_lost_93 : decode t_X10_lost.2.1 93 = .ok (.iastore, 1) := by decide +kernel
theorem dX10_lost_94 : decode t_X10_lost.2.1 94 = .ok (.aload_n 0, 1) := by decide +kernel
theorem dX10_lost_95 : decode t_X10_lost.2.1 95 = .ok (.invokevirtual 228, 3) := by decide +kernel
theorem iX10_lost_95 : wm_iv t_X10_lost t_X10_standing 95 := ⟨228, wd_1433, dX10_lost_95⟩
theorem dX10_lost_98 : decode t_X10_lost.2.1 98 = .ok (.istore 5, 2) := by decide +kernel
theorem dX10_lost_100 : decode t_X10_lost.2.1 100 = .ok (.iload 4, 2) := by decide +kernel
theorem dX10_lost_102 : decode t_X10_lost.2.1 102 = .ok (.iload 5, 2) := by decide +kernel
theorem dX10_lost_104 : decode t_X10_lost.2.1 104 = .ok (.iand, 1) := by decide +kernel
theorem dX10_lost_105 : decode t_X10_lost.2.1 105 = .ok (.istore 4, 2) := by decide +kernel
theorem dX10_lost_107 : decode t_X10_lost.2.1 107 = .ok (.iinc 6 1, 3) := by decide +kernel
theorem dX10_lost_110 : decode t_X10_lost.2.1 110 = .ok (.goto (-63), 3) := by decide +kernel
theorem dX10_lost_113 : decode t_X10_lost.2.1 113 = .ok (.aload_n 0, 1) := by decide +kernel
theorem dX10_lost_114 : decode t_X10_lost.2.1 114 = .ok (.iload 4, 2) := by decide +kernel
theorem dX10_lost_116 : decode t_X10_lost.2.1 116 = .ok (.iload_n 3, 1) := by decide +kernel
theorem dX10_lost_117 : decode t_X10_lost.2.1 117 = .ok (.iload 5, 2) := by decide +kernel
theorem dX10_lost_119 : decode t_X10_lost.2.1 119 = .ok (.iconst (-1), 1) := by decide +kernel
theorem dX10_lost_120 : decode t_X10_lost.2.1 120 = .ok (.ixor, 1) := by decide +kernel
theorem dX10_lost_121 : decode t_X10_lost.2.1 121 = .ok (.iand, 1) := by decide +kernel
theorem dX10_lost_122 : decode t_X10_lost.2.1 122 = .ok (.invokevirtual 119, 3) := by decide +kernel
theorem iX10_lost_122 : wm_iv t_X10_lost t_X10_tells 122 := ⟨119, wd_1282, dX10_lost_122⟩
theorem dX10_lost_125 : decode t_X10_lost.2.1 125 = .ok (.ireturn, 1) := by decide +kernel
