theorem wd_1250 : Cond.code yX10_in cX10_in 3 (some .boolean) ∈ lw_gd := List.mem_filter.mpr ⟨List.mem_of_getElem? (i := 1250) (by decide +kernel), by decide +kernel⟩
theorem wd_88 : Cond.initialized RX10 ∈ lw_gd := List.mem_filter.mpr ⟨List.mem_of_getElem? (i := 88) (by decide +kernel), by decide +kernel⟩
theorem wd_1249 : Cond.static yX10_in ∈ lw_gd := List.mem_filter.mpr ⟨List.mem_of_getElem? (i := 1249) (by decide +kernel), by decide +kernel⟩
theorem vX10_in : wm_calS t_X10_in 3 := ⟨⟨wd_1250, wd_88, by decide +kernel, by decide +kernel, by decide +kernel⟩, wd_1249⟩
theorem dX10_in_0 : decode t_X10_in.2.1 0 = .ok (.iload_n 0, 1) := by decide +kernel
theorem dX10_in_1 : decode t_X10_in.2.1 1 = .ok (.iload_n 1, 1) := by decide +kernel
theorem dX10_in_2 : decode t_X10_in.2.1 2 = .ok (.if_icmp .lt 12, 3) := by decide +kernel
theorem dX10_in_5 : decode t_X10_in.2.1 5 = .ok (.iload_n 0, 1) := by decide +kernel
theorem dX10_in_6 : decode t_X10_in.2.1 6 = .ok (.iload_n 2, 1) := by decide +kernel
theorem dX10_in_7 : decode t_X10_in.2.1 7 = .ok (.if_icmp .gt 7, 3) := by decide +kernel
theorem dX10_in_10 : decode t_X10_in.2.1 10 = .ok (.iconst 1, 1) := by decide +kernel
theorem dX10_in_11 : decode t_X10_in.2.1 11 = .ok (.goto 4, 3) := by decide +kernel
theorem dX10_in_14 : decode t_X10_in.2.1 14 = .ok (.iconst 0, 1) := by decide +kernel
theorem dX10_in_15 : decode t_X10_in.2.1 15 = .ok (.ireturn, 1) := by decide +kernel
theorem wd_1366 : Cond.code yX10_has cX10_has 2 (some .boolean) ∈ lw_gd := List.mem_filter.mpr ⟨List.mem_of_getElem? (i := 1366) (by decide +kernel), by decide +kernel⟩
theorem wd_1365 : Cond.static yX10_has ∈ lw_gd := List.mem_filter.mpr ⟨List.mem_of_getElem? (i := 1365) (by decide +kernel), by decide +kernel⟩
theorem vX10_has : wm_calS t_X10_has 2 := ⟨⟨wd_1366, wd_88, by decide +kernel, by decide +kernel, by decide +kernel⟩, wd_1365⟩
theorem dX10_has_0 : decode t_X10_has.2.1 0 = .ok (.iload_n 0, 1) := by decide +kernel
theorem dX10_has_1 : decode t_X10_has.2.1 1 = .ok (.iload_n 1, 1) := by decide +kernel
theorem dX10_has_2 : decode t_X10_has.2.1 2 = .ok (.ishr, 1) := by decide +kernel
theorem dX10_has_3 : decode t_X10_has.2.1 3 = .ok (.iconst 1, 1) := by decide +kernel
theorem dX10_has_4 : decode t_X10_has.2.1 4 = .ok (.iand, 1) := by decide +kernel
theorem dX10_has_5 : decode t_X10_has.2.1 5 = .ok (.iconst 1, 1) := by decide +kernel
theorem dX10_has_6 : decode t_X10_has.2.1 6 = .ok (.if_icmp .ne 7, 3) := by decide +kernel
theorem dX10_has_9 : decode t_X10_has.2.1 9 = .ok (.iconst 1, 1) := by decide +kernel
theorem dX10_has_10 : decode t_X10_has.2.1 10 = .ok (.goto 4, 3) := by decide +kernel
theorem dX10_has_13 : decode t_X10_has.2.1 13 = .ok (.iconst 0, 1) := by decide +kernel
theorem dX10_has_14 : decode t_X10_has.2.1 14 = .ok (.ireturn, 1) := by decide +kernel
theorem wd_1369 : Cond.code yX10_bits cX10_bits 3 (some .int) ∈ lw_gd := List.mem_filter.mpr ⟨List.mem_of_getElem? (i := 1369) (by decide +kernel), by decide +kernel⟩
theorem wd_1368 : Cond.static yX10_bits ∈ lw_gd := List.mem_filter.mpr ⟨List.mem_of_getElem? (i := 1368) (by decide +kernel), by decide +kernel⟩
theorem vX10_bits : wm_calS t_X10_bits 1 := ⟨⟨wd_1369, wd_88, by decide +kernel, by decide +kernel, by decide +kernel⟩, wd_1368⟩
theorem dX10_bits_0 : decode t_X10_bits.2.1 0 = .ok (.iconst 0, 1) := by decide +kernel
theorem dX10_bits_1 : decode t_X10_bits.2.1 1 = .ok (.istore_n 1, 1) := by decide +kernel
theorem dX10_bits_2 : decode t_X10_bits.2.1 2 = .ok (.iload_n 0, 1) := by decide +kernel
theorem dX10_bits_3 : decode t_X10_bits.2.1 3 = .ok (.istore_n 2, 1) := by decide +kernel
theorem dX10_bits_4 : decode t_X10_bits.2.1 4 = .ok (.iload_n 2, 1) := by decide +kernel
theorem dX10_bits_5 : decode t_X10_bits.2.1 5 = .ok (.ifCond .eq 15, 3) := by decide +kernel
theorem dX10_bits_8 : decode t_X10_bits.2.1 8 = .ok (.iinc 1 1, 3) := by decide +kernel
theorem dX10_bits_11 : decode t_X10_bits.2.1 11 = .ok (.iload_n 2, 1) := by decide +kernel
theorem dX10_bits_12 : decode t_X10_bits.2.1 12 = .ok (.iload_n 2, 1) := by decide +kernel
theorem dX10_bits_13 : decode t_X10_bits.2.1 13 = .ok (.iconst 1, 1) := by decide +kernel
theorem dX10_bits_14 : decode t_X10_bits.2.1 14 = .ok (.isub, 1) := by decide +kernel
theorem dX10_bits_15 : decode t_X10_bits.2.1 15 = .ok (.iand, 1) := by decide +kernel
theorem dX10_bits_16 : decode t_X10_bits.2.1 16 = .ok (.istore_n 2, 1) := by decide +kernel
theorem dX10_bits_17 : decode t_X10_bits.2.1 17 = .ok (.goto (-13), 3) := by decide +kernel
theorem dX10_bits_20 : decode t_X10_bits.2.1 20 = .ok (.iload_n 1, 1) := by decide +kernel
theorem dX10_bits_21 : decode t_X10_bits.2.1 21 = .ok (.ireturn, 1) := by decide +kernel
theorem wd_1273 : Cond.code yX10_meets cX10_meets 2 (some .int) ∈ lw_gd := List.mem_filter.mpr ⟨List.mem_of_getElem? (i := 1273) (by decide +kernel), by decide +kernel⟩
theorem wd_1272 : Cond.instanceMethod yX10_meets ∈ lw_gd := List.mem_filter.mpr ⟨List.mem_of_getElem? (i := 1272) (by decide +kernel), by decide +kernel⟩
theorem wd_34 : Cond.selects RX10 yX10_meets yX10_meets ∈ lw_gd := List.mem_filter.mpr ⟨List.mem_of_getElem? (i := 34) (by decide +kernel), by decide +kernel⟩
theorem vX10_meets : wm_calV t_X10_meets 1 := ⟨⟨wd_1273, wd_88, by decide +kernel, by decide +kernel, by decide +kernel⟩, wd_1272, wd_34⟩
theorem dX10_meets_0 : decode t_X10_meets.2.1 0 = .ok (.aload_n 0, 1) := by decide +kernel
theorem dX10_meets_1 : decode t_X10_meets.2.1 1 = .ok (.iload_n 1, 1) := by decide +kernel
theorem dX10_meets_2 : decode t_X10_meets.2.1 2 = .ok (.putfield 93, 3) := by decide +kernel
theorem wd_1114 : Cond.fieldLink RX10 93 "TurnedStonesModel" "latest" "I" ∈ lw_gd := List.mem_filter.mpr ⟨List.mem_of_getElem? (i := 1114) (by decide +kernel), by decide +kernel⟩
theorem gX10_meets_2 : wm_pf t_X10_meets 2 10 0 .int := ⟨_, _, _, 93, rfl, by decide, wd_1114, dX10_meets_2, rfl, by decide +kernel⟩
theorem dX10_meets_5 : decode t_X10_meets.2.1 5 = .ok (.aload_n 0, 1) := by decide +kernel
theorem dX10_meets_6 : decode t_X10_meets.2.1 6 = .ok (.getfield 7, 3) := by decide +kernel
theorem wd_1115 : Cond.fieldLink RX10 7 "TurnedStonesModel" "came" "[I" ∈ lw_gd := List.mem_filter.mpr ⟨List.mem_of_getElem? (i := 1115) (by decide +kernel), by decide +kernel⟩
theorem gX10_meets_6 : wm_gf t_X10_meets 6 10 1 := ⟨_, _, _, 7, rfl, by decide, wd_1115, dX10_meets_6⟩
theorem dX10_meets_9 : decode t_X10_meets.2.1 9 = .ok (.iload_n 1, 1) := by decide +kernel
theorem dX10_meets_10 : decode t_X10_meets.2.1 10 = .ok (.dup2, 1) := by decide +kernel
theorem dX10_meets_11 : decode t_X10_meets.2.1 11 = .ok (.iaload, 1) := by decide +kernel
theorem dX10_meets_12 : decode t_X10_meets.2.1 12 = .ok (.iconst 1, 1) := by decide +kernel
theorem dX10_meets_13 : decode t_X10_meets.2.1 13 = .ok (.iadd, 1) := by decide +kernel
theorem dX10_meets_14 : decode t_X10_meets.2.1 14 = .ok (.iastore, 1) := by decide +kernel
theorem dX10_meets_15 : decode t_X10_meets.2.1 15 = .ok (.bipush (-3), 2) := by decide +kernel
theorem dX10_meets_17 : decode t_X10_meets.2.1 17 = .ok (.ireturn, 1) := by decide +kernel
theorem wd_1243 : Cond.code yX10_finding cX10_finding 1 (some .int) ∈ lw_gd := List.mem_filter.mpr ⟨List.mem_of_getElem? (i := 1243) (by decide +kernel), by decide +kernel⟩
theorem wd_1241 : Cond.instanceMethod yX10_finding ∈ lw_gd := List.mem_filter.mpr ⟨List.mem_of_getElem? (i := 1241) (by decide +kernel), by decide +kernel⟩
theorem wd_1242 : Cond.selects RX10 yX10_finding yX10_finding ∈ lw_gd := List.mem_filter.mpr ⟨List.mem_of_getElem? (i := 1242) (by decide +kernel), by decide +kernel⟩
theorem vX10_finding : wm_calV t_X10_finding 0 := ⟨⟨wd_1243, wd_88, by decide +kernel, by decide +kernel, by decide +kernel⟩, wd_1241, wd_1242⟩
theorem dX10_finding_0 : decode t_X10_finding.2.1 0 = .ok (.aload_n 0, 1) := by decide +kernel
theorem dX10_finding_1 : decode t_X10_finding.2.1 1 = .ok (.getfield 93, 3) := by decide +kernel
theorem gX10_finding_1 : wm_gf t_X10_finding 1 10 0 := ⟨_, _, _, 93, rfl, by decide, wd_1114, dX10_finding_1⟩
theorem dX10_finding_4 : decode t_X10_finding.2.1 4 = .ok (.ireturn, 1) := by decide +kernel
theorem wd_1247 : Cond.code yX10_findings cX10_findings 2 (some .int) ∈ lw_gd := List.mem_filter.mpr ⟨List.mem_of_getElem? (i := 1247) (by decide +kernel), by decide +kernel⟩
theorem wd_1245 : Cond.instanceMethod yX10_findings ∈ lw_gd := List.mem_filter.mpr ⟨List.mem_of_getElem? (i := 1245) (by decide +kernel), by decide +kernel⟩
theorem wd_1246 : Cond.selects RX10 yX10_findings yX10_findings ∈ lw_gd := List.mem_filter.mpr ⟨List.mem_of_getElem? (i := 1246) (by decide +kernel), by decide +kernel⟩
theorem vX10_findings : wm_calV t_X10_findings 1 := ⟨⟨wd_1247, wd_88, by decide +kernel, by decide +kernel, by decide +kernel⟩, wd_1245, wd_1246⟩
theorem dX10_findings_0 : decode t_X10_findings.2.1 0 = .ok (.iload_n 1, 1) := by decide +kernel
theorem dX10_findings_1 : decode t_X10_findings.2.1 1 = .ok (.iconst 1, 1) := by decide +kernel
theorem dX10_findings_2 : decode t_X10_findings.2.1 2 = .ok (.iconst 5, 1) := by decide +kernel
theorem dX10_findings_3 : decode t_X10_findings.2.1 3 = .ok (.invokestatic 97, 3) := by decide +kernel
theorem wd_1248 : Cond.methodLink RX10 97 yX10_in ∈ lw_gd := List.mem_filter.mpr ⟨List.mem_of_getElem? (i := 1248) (by decide +kernel), by decide +kernel⟩
theorem iX10_findings_3 : wm_is t_X10_findings t_X10_in 3 := ⟨97, wd_1248, dX10_findings_3⟩
theorem dX10_findings_6 : decode t_X10_findings.2.1 6 = .ok (.ifCond .eq 12, 3) := by decide +kernel
theorem dX10_findings_9 : decode t_X10_findings.2.1 9 = .ok (.aload_n 0, 1) := by decide +kernel
theorem dX10_findings_10 : decode t_X10_findings.2.1 10 = .ok (.getfield 7, 3) := by decide +kernel
theorem gX10_findings_10 : wm_gf t_X10_findings 10 10 1 := ⟨_, _, _, 7, rfl, by decide, wd_1115, dX10_findings_10⟩
theorem dX10_findings_13 : decode t_X10_findings.2.1 13 = .ok (.iload_n 1, 1) := by decide +kernel
theorem dX10_findings_14 : decode t_X10_findings.2.1 14 = .ok (.iaload, 1) := by decide +kernel
theorem dX10_findings_15 : decode t_X10_findings.2.1 15 = .ok (.goto 4, 3) := by decide +kernel
theorem dX10_findings_18 : decode t_X10_findings.2.1 18 = .ok (.iconst (-1), 1) := by decide +kernel
theorem dX10_findings_19 : decode t_X10_findings.2.1 19 = .ok (.ireturn, 1) := by decide +kernel
theorem wd_1285 : Cond.code yX10_tells cX10_tells 3 (some .int) ∈ lw_gd := List.mem_filter.mpr ⟨List.mem_of_getElem? (i := 1285) (by decide +kernel), by decide +kernel⟩
theorem wd_1284 : Cond.instanceMethod yX10_tells ∈ lw_gd := List.mem_filter.mpr ⟨List.mem_of_getElem? (i := 1284) (by decide +kernel), by decide +kernel⟩
theorem wd_36 : Cond.selects RX10 yX10_tells yX10_tells ∈ lw_gd := List.mem_filter.mpr ⟨List.mem_of_getElem? (i := 36) (by decide +kernel), by decide +kernel⟩
theorem vX10_tells : wm_calV t_X10_tells 2 := ⟨⟨wd_1285, wd_88, by decide +kernel, by decide +kernel, by decide +kernel⟩, wd_1284, wd_36⟩
theorem dX10_tells_0 : decode t_X10_tells.2.1 0 = .ok (.aload_n 0, 1) := by decide +kernel
theorem dX10_tells_1 : decode t_X10_tells.2.1 1 = .ok (.iload_n 1, 1) := by decide +kernel
theorem dX10_tells_2 : decode t_X10_tells.2.1 2 = .ok (.putfield 101, 3) := by decide +kernel
theorem wd_1116 : Cond.fieldLink RX10 101 "TurnedStonesModel" "asked" "I" ∈ lw_gd := List.mem_filter.mpr ⟨List.mem_of_getElem? (i := 1116) (by decide +kernel), by decide +kernel⟩
theorem gX10_tells_2 : wm_pf t_X10_tells 2 10 2 .int := ⟨_, _, _, 101, rfl, by decide, wd_1116, dX10_tells_2, rfl, by decide +kernel⟩
theorem dX10_tells_5 : decode t_X10_tells.2.1 5 = .ok (.iload_n 2, 1) := by decide +kernel
theorem dX10_tells_6 : decode t_X10_tells.2.1 6 = .ok (.ireturn, 1) := by decide +kernel
theorem wd_1254 : Cond.code yX10_asked cX10_asked 1 (some .int) ∈ lw_gd := List.mem_filter.mpr ⟨List.mem_of_getElem? (i := 1254) (by decide +kernel), by decide +kernel⟩
theorem wd_1252 : Cond.instanceMethod yX10_asked ∈ lw_gd := List.mem_filter.mpr ⟨List.mem_of_getElem? (i := 1252) (by decide +kernel), by decide +kernel⟩
theorem wd_1253 : Cond.selects RX10 yX10_asked yX10_asked ∈ lw_gd := List.mem_filter.mpr ⟨List.mem_of_getElem? (i := 1253) (by decide +kernel), by decide +kernel⟩
theorem vX10_asked : wm_calV t_X10_asked 0 := ⟨⟨wd_1254, wd_88, by decide +kernel, by decide +kernel, by decide +kernel⟩, wd_1252, wd_1253⟩
theorem dX10_asked_0 : decode t_X10_asked.2.1 0 = .ok (.aload_n 0, 1) := by decide +kernel
theorem dX10_asked_1 : decode t_X10_asked.2.1 1 = .ok (.getfield 101, 3) := by decide +kernel
theorem gX10_asked_1 : wm_gf t_X10_asked 1 10 2 := ⟨_, _, _, 101, rfl, by decide, wd_1116, dX10_asked_1⟩
theorem dX10_asked_4 : decode t_X10_asked.2.1 4 = .ok (.ireturn, 1) := by decide +kernel
theorem wd_1523 : Cond.code yX10_fraction cX10_fraction 12 (some .int) ∈ lw_gd := List.mem_filter.mpr ⟨List.mem_of_getElem? (i := 1523) (by decide +kernel), by decide +kernel⟩
theorem wd_1522 : Cond.instanceMethod yX10_fraction ∈ lw_gd := List.mem_filter.mpr ⟨List.mem_of_getElem? (i := 1522) (by decide +kernel), by decide +kernel⟩
theorem wd_68 : Cond.selects RX10 yX10_fraction yX10_fraction ∈ lw_gd := List.mem_filter.mpr ⟨List.mem_of_getElem? (i := 68) (by decide +kernel), by decide +kernel⟩
theorem vX10_fraction : wm_calV t_X10_fraction 3 := ⟨⟨wd_1523, wd_88, by decide +kernel, by decide +kernel, by decide +kernel⟩, wd_1522, wd_68⟩
theorem dX10_fraction_0 : decode t_X10_fraction.2.1 0 = .ok (.lload_n 1, 1) := by decide +kernel
theorem dX10_fraction_1 : decode t_X10_fraction.2.1 1 = .ok (.lstore 6, 2) := by decide +kernel
theorem dX10_fraction_3 : decode t_X10_fraction.2.1 3 = .ok (.lload_n 3, 1) := by decide +kernel
theorem dX10_fraction_4 : decode t_X10_fraction.2.1 4 = .ok (.lstore 8, 2) := by decide +kernel
theorem dX10_fraction_6 : decode t_X10_fraction.2.1 6 = .ok (.lload 8, 2) := by decide +kernel
theorem dX10_fraction_8 : decode t_X10_fraction.2.1 8 = .ok (.lconst 0, 1) := by decide +kernel
theorem dX10_fraction_9 : decode t_X10_fraction.2.1 9 = .ok (.lcmp, 1) := by decide +kernel
theorem dX10_fraction_10 : decode t_X10_fraction.2.1 10 = .ok (.ifCond .eq 21, 3) := by decide +kernel
theorem dX10_fraction_13 : decode t_X10_fraction.2.1 13 = .ok (.lload 6, 2) := by decide +kernel
theorem dX10_fraction_15 : decode t_X10_fraction.2.1 15 = .ok (.lload 8, 2) := by decide +kernel
theorem dX10_fraction_17 : decode t_X10_fraction.2.1 17 = .ok (.lrem, 1) := by decide +kernel
theorem dX10_fraction_18 : decode t_X10_fraction.2.1 18 = .ok (.lstore 10, 2) := by decide +kernel
theorem dX10_fraction_20 : decode t_X10_fraction.2.1 20 = .ok (.lload 8, 2) := by decide +kernel
theorem dX10_fraction_22 : decode t_X10_fraction.2.1 22 = .ok (.lstore 6, 2) := by decide +kernel
theorem dX10_fraction_24 : decode t_X10_fraction.2.1 24 = .ok (.lload 10, 2) := by decide +kernel
theorem dX10_fraction_26 : decode t_X10_fraction.2.1 26 = .ok (.lstore 8, 2) := by decide +kernel
theorem dX10_fraction_28 : decode t_X10_fraction.2.1 28 = .ok (.goto (-22), 3) := by decide +kernel
theorem dX10_fraction_31 : decode t_X10_fraction.2.1 31 = .ok (.aload_n 0, 1) := by decide +kernel
theorem dX10_fraction_32 : decode t_X10_fraction.2.1 32 = .ok (.lload_n 1, 1) := by decide +kernel
theorem dX10_fraction_33 : decode t_X10_fraction.2.1 33 = .ok (.lload 6, 2) := by decide +kernel
theorem dX10_fraction_35 : decode t_X10_fraction.2.1 35 = .ok (.ldiv, 1) := by decide +kernel
theorem dX10_fraction_36 : decode t_X10_fraction.2.1 36 = .ok (.putfield 104, 3) := by decide +kernel
theorem wd_1117 : Cond.fieldLink RX10 104 "TurnedStonesModel" "upper" "J" ∈ lw_gd := List.mem_filter.mpr ⟨List.mem_of_getElem? (i := 1117) (by decide +kernel), by decide +kernel⟩
theorem gX10_fraction_36 : wm_pf t_X10_fraction 36 10 3 .long := ⟨_, _, _, 104, rfl, by decide, wd_1117, dX10_fraction_36, rfl, by decide +kernel⟩
theorem dX10_fraction_39 : decode t_X10_fraction.2.1 39 = .ok (.aload_n 0, 1) := by decide +kernel
theorem dX10_fraction_40 : decode t_X10_fraction.2.1 40 = .ok (.lload_n 3, 1) := by decide +kernel
theorem dX10_fraction_41 : decode t_X10_fraction.2.1 41 = .ok (.lload 6, 2) := by decide +kernel
theorem dX10_fraction_43 : decode t_X10_fraction.2.1 43 = .ok (.ldiv, 1) := by decide +kernel
theorem dX10_fraction_44 : decode t_X10_fraction.2.1 44 = .ok (.putfield 89, 3) := by decide +kernel
theorem wd_1118 : Cond.fieldLink RX10 89 "TurnedStonesModel" "lower" "J" ∈ lw_gd := List.mem_filter.mpr ⟨List.mem_of_getElem? (i := 1118) (by decide +kernel), by decide +kernel⟩
theorem gX10_fraction_44 : wm_pf t_X10_fraction 44 10 4 .long := ⟨_, _, _, 89, rfl, by decide, wd_1118, dX10_fraction_44, rfl, by decide +kernel⟩
theorem dX10_fraction_47 : decode t_X10_fraction.2.1 47 = .ok (.iload 5, 2) := by decide +kernel
theorem dX10_fraction_49 : decode t_X10_fraction.2.1 49 = .ok (.ireturn, 1) := by decide +kernel
theorem wd_1258 : Cond.code yX10_upper cX10_upper 1 (some .long) ∈ lw_gd := List.mem_filter.mpr ⟨List.mem_of_getElem? (i := 1258) (by decide +kernel), by decide +kernel⟩
theorem wd_1256 : Cond.instanceMethod yX10_upper ∈ lw_gd := List.mem_filter.mpr ⟨List.mem_of_getElem? (i := 1256) (by decide +kernel), by decide +kernel⟩
theorem wd_1257 : Cond.selects RX10 yX10_upper yX10_upper ∈ lw_gd := List.mem_filter.mpr ⟨List.mem_of_getElem? (i := 1257) (by decide +kernel), by decide +kernel⟩
theorem vX10_upper : wm_calV t_X10_upper 0 := ⟨⟨wd_1258, wd_88, by decide +kernel, by decide +kernel, by decide +kernel⟩, wd_1256, wd_1257⟩
theorem dX10_upper_0 : decode t_X10_upper.2.1 0 = .ok (.aload_n 0, 1) := by decide +kernel
theorem dX10_upper_1 : decode t_X10_upper.2.1 1 = .ok (.getfield 104, 3) := by decide +kernel
theorem gX10_upper_1 : wm_gf t_X10_upper 1 10 3 := ⟨_, _, _, 104, rfl, by decide, wd_1117, dX10_upper_1⟩
theorem dX10_upper_4 : decode t_X10_upper.2.1 4 = .ok (.lreturn, 1) := by decide +kernel
theorem wd_1262 : Cond.code yX10_lower cX10_lower 1 (some .long) ∈ lw_gd := List.mem_filter.mpr ⟨List.mem_of_getElem? (i := 1262) (by decide +kernel), by decide +kernel⟩
theorem wd_1260 : Cond.instanceMethod yX10_lower ∈ lw_gd := List.mem_filter.mpr ⟨List.mem_of_getElem? (i := 1260) (by decide +kernel), by decide +kernel⟩
theorem wd_1261 : Cond.selects RX10 yX10_lower yX10_lower ∈ lw_gd := List.mem_filter.mpr ⟨List.mem_of_getElem? (i := 1261) (by decide +kernel), by decide +kernel⟩
theorem vX10_lower : wm_calV t_X10_lower 0 := ⟨⟨wd_1262, wd_88, by decide +kernel, by decide +kernel, by decide +kernel⟩, wd_1260, wd_1261⟩
theorem dX10_lower_0 : decode t_X10_lower.2.1 0 = .ok (.aload_n 0, 1) := by decide +kernel
theorem dX10_lower_1 : decode t_X10_lower.2.1 1 = .ok (.getfield 89, 3) := by decide +kernel
theorem gX10_lower_1 : wm_gf t_X10_lower 1 10 4 := ⟨_, _, _, 89, rfl, by decide, wd_1118, dX10_lower_1⟩
theorem dX10_lower_4 : decode t_X10_lower.2.1 4 = .ok (.lreturn, 1) := by decide +kernel
theorem wd_1269 : Cond.code yX10_isRow cX10_isRow 1 (some .boolean) ∈ lw_gd := List.mem_filter.mpr ⟨List.mem_of_getElem? (i := 1269) (by decide +kernel), by decide +kernel⟩
theorem wd_1268 : Cond.static yX10_isRow ∈ lw_gd := List.mem_filter.mpr ⟨List.mem_of_getElem? (i := 1268) (by decide +kernel), by decide +kernel⟩
theorem vX10_isRow : wm_calS t_X10_isRow 1 := ⟨⟨wd_1269, wd_88, by decide +kernel, by decide +kernel, by decide +kernel⟩, wd_1268⟩
theorem dX10_isRow_0 : decode t_X10_isRow.2.1 0 = .ok (.iload_n 0, 1) := by decide +kernel
theorem dX10_isRow_1 : decode t_X10_isRow.2.1 1 = .ok (.iconst 0, 1) := by decide +kernel
theorem dX10_isRow_2 : decode t_X10_isRow.2.1 2 = .ok (.iconst 5, 1) := by decide +kernel
theorem dX10_isRow_3 : decode t_X10_isRow.2.1 3 = .ok (.invokestatic 97, 3) := by decide +kernel
theorem iX10_isRow_3 : wm_is t_X10_isRow t_X10_in 3 := ⟨97, wd_1248, dX10_isRow_3⟩
theorem dX10_isRow_6 : decode t_X10_isRow.2.1 6 = .ok (.ireturn, 1) := by decide +kernel
theorem wd_1281 : Cond.code yX10_rowAt cX10_rowAt 3 (some .int) ∈ lw_gd := List.mem_filter.mpr ⟨List.mem_of_getElem? (i := 1281) (by decide +kernel), by decide +kernel⟩
theorem wd_1280 : Cond.instanceMethod yX10_rowAt ∈ lw_gd := List.mem_filter.mpr ⟨List.mem_of_getElem? (i := 1280) (by decide +kernel), by decide +kernel⟩
theorem wd_35 : Cond.selects RX10 yX10_rowAt yX10_rowAt ∈ lw_gd := List.mem_filter.mpr ⟨List.mem_of_getElem? (i := 35) (by decide +kernel), by decide +kernel⟩
theorem vX10_rowAt : wm_calV t_X10_rowAt 2 := ⟨⟨wd_1281, wd_88, by decide +kernel, by decide +kernel, by decide +kernel⟩, wd_1280, wd_35⟩
theorem dX10_rowAt_0 : decode t_X10_rowAt.2.1 0 = .ok (.aload_n 0, 1) := by decide +kernel
theorem dX10_rowAt_1 : decode t_X10_rowAt.2.1 1 = .ok (.getfield 16, 3) := by decide +kernel
theorem wd_1120 : Cond.fieldLink RX10 16 "TurnedStonesModel" "rows" "[I" ∈ lw_gd := List.mem_filter.mpr ⟨List.mem_of_getElem? (i := 1120) (by decide +kernel), by decide +kernel⟩
theorem gX10_rowAt_1 : wm_gf t_X10_rowAt 1 10 6 := ⟨_, _, _, 16, rfl, by decide, wd_1120, dX10_rowAt_1⟩
theorem dX10_rowAt_4 : decode t_X10_rowAt.2.1 4 = .ok (.bipush 60, 2) := by decide +kernel
theorem dX10_rowAt_6 : decode t_X10_rowAt.2.1 6 = .ok (.iload_n 1, 1) := by decide +kernel
theorem dX10_rowAt_7 : decode t_X10_rowAt.2.1 7 = .ok (.imul, 1) := by decide +kernel
theorem dX10_rowAt_8 : decode t_X10_rowAt.2.1 8 = .ok (.iload_n 2, 1) := by decide +kernel
theorem dX10_rowAt_9 : decode t_X10_rowAt.2.1 9 = .ok (.iadd, 1) := by decide +kernel
theorem dX10_rowAt_10 : decode t_X10_rowAt.2.1 10 = .ok (.iaload, 1) := by decide +kernel
theorem dX10_rowAt_11 : decode t_X10_rowAt.2.1 11 = .ok (.ireturn, 1) := by decide +kernel
theorem wd_1266 : Cond.code yX10_row cX10_row 4 (some .int) ∈ lw_gd := List.mem_filter.mpr ⟨List.mem_of_getElem? (i := 1266) (by decide +kernel), by decide +kernel⟩
theorem wd_1264 : Cond.instanceMethod yX10_row ∈ lw_gd := List.mem_filter.mpr ⟨List.mem_of_getElem? (i := 1264) (by decide +kernel), by decide +kernel⟩
theorem wd_1265 : Cond.selects RX10 yX10_row yX10_row ∈ lw_gd := List.mem_filter.mpr ⟨List.mem_of_getElem? (i := 1265) (by decide +kernel), by decide +kernel⟩
theorem vX10_row : wm_calV t_X10_row 2 := ⟨⟨wd_1266, wd_88, by decide +kernel, by decide +kernel, by decide +kernel⟩, wd_1264, wd_1265⟩
theorem dX10_row_0 : decode t_X10_row.2.1 0 = .ok (.iload_n 1, 1) := by decide +kernel
theorem dX10_row_1 : decode t_X10_row.2.1 1 = .ok (.invokestatic 107, 3) := by decide +kernel
theorem wd_1267 : Cond.methodLink RX10 107 yX10_isRow ∈ lw_gd := List.mem_filter.mpr ⟨List.mem_of_getElem? (i := 1267) (by decide +kernel), by decide +kernel⟩
theorem iX10_row_1 : wm_is t_X10_row t_X10_isRow 1 := ⟨107, wd_1267, dX10_row_1⟩
theorem dX10_row_4 : decode t_X10_row.2.1 4 = .ok (.ifCond .eq 9, 3) := by decide +kernel
theorem dX10_row_7 : decode t_X10_row.2.1 7 = .ok (.iload_n 2, 1) := by decide +kernel
theorem dX10_row_8 : decode t_X10_row.2.1 8 = .ok (.bipush 60, 2) := by decide +kernel
theorem dX10_row_10 : decode t_X10_row.2.1 10 = .ok (.if_icmp .le 5, 3) := by decide +kernel
theorem dX10_row_13 : decode t_X10_row.2.1 13 = .ok (.iconst (-1), 1) := by decide +kernel
theorem dX10_row_14 : decode t_X10_row.2.1 14 = .ok (.ireturn, 1) := by decide +kernel
theorem dX10_row_15 : decode t_X10_row.2.1 15 = .ok (.iload_n 2, 1) := by decide +kernel
theorem dX10_row_16 : decode t_X10_row.2.1 16 = .ok (.ifCond .ge 9, 3) := by decide +kernel
theorem dX10_row_19 : decode t_X10_row.2.1 19 = .ok (.aload_n 0, 1) := by decide +kernel
theorem dX10_row_20 : decode t_X10_row.2.1 20 = .ok (.iconst 5, 1) := by decide +kernel
theorem dX10_row_21 : decode t_X10_row.2.1 21 = .ok (.invokevirtual 111, 3) := by decide +kernel
theorem wd_1270 : Cond.methodLink RX10 111 yX10_meets ∈ lw_gd := List.mem_filter.mpr ⟨List.mem_of_getElem? (i := 1270) (by decide +kernel), by decide +kernel⟩
theorem iX10_row_21 : wm_iv t_X10_row t_X10_meets 21 := ⟨111, wd_1270, dX10_row_21⟩
theorem dX10_row_24 : decode t_X10_row.2.1 24 = .ok (.ireturn, 1) := by decide +kernel
theorem dX10_row_25 : decode t_X10_row.2.1 25 = .ok (.aload_n 0, 1) := by decide +kernel
theorem dX10_row_26 : decode t_X10_row.2.1 26 = .ok (.getfield 13, 3) := by decide +kernel
theorem wd_1119 : Cond.fieldLink RX10 13 "TurnedStonesModel" "sizes" "[I" ∈ lw_gd := List.mem_filter.mpr ⟨List.mem_of_getElem? (i := 1119) (by decide +kernel), by decide +kernel⟩
theorem gX10_row_26 : wm_gf t_X10_row 26 10 5 := ⟨_, _, _, 13, rfl, by decide, wd_1119, dX10_row_26⟩
theorem dX10_row_29 : decode t_X10_row.2.1 29 = .ok (.iload_n 1, 1) := by decide +kernel
theorem dX10_row_30 : decode t_X10_row.2.1 30 = .ok (.iload_n 2, 1) := by decide +kernel
theorem dX10_row_31 : decode t_X10_row.2.1 31 = .ok (.iastore, 1) := by decide +kernel
theorem dX10_row_32 : decode t_X10_row.2.1 32 = .ok (.iconst 0, 1) := by decide +kernel
theorem dX10_row_33 : decode t_X10_row.2.1 33 = .ok (.istore_n 3, 1) := by decide +kernel
theorem dX10_row_34 : decode t_X10_row.2.1 34 = .ok (.iload_n 3, 1) := by decide +kernel
theorem dX10_row_35 : decode t_X10_row.2.1 35 = .ok (.bipush 60, 2) := by decide +kernel
theorem dX10_row_37 : decode t_X10_row.2.1 37 = .ok (.if_icmp .ge 21, 3) := by decide +kernel
theorem dX10_row_40 : decode t_X10_row.2.1 40 = .ok (.aload_n 0, 1) := by decide +kernel
theorem dX10_row_41 : decode t_X10_row.2.1 41 = .ok (.getfield 16, 3) := by decide +kernel
theorem gX10_row_41 : wm_gf t_X10_row 41 10 6 := ⟨_, _, _, 16, rfl, by decide, wd_1120, dX10_row_41⟩
theorem dX10_row_44 : decode t_X10_row.2.1 44 = .ok (.bipush 60, 2) := by decide +kernel
theorem dX10_row_46 : decode t_X10_row.2.1 46 = .ok (.iload_n 1, 1) := by decide +kernel
theorem dX10_row_47 : decode t_X10_row.2.1 47 = .ok (.imul, 1) := by decide +kernel
theorem dX10_row_48 : decode t_X10_row.2.1 48 = .ok (.iload_n 3, 1) := by decide +kernel
theorem dX10_row_49 : decode t_X10_row.2.1 49 = .ok (.iadd, 1) := by decide +kernel
theorem dX10_row_50 : decode t_X10_row.2.1 50 = .ok (.iconst 0, 1) := by decide +kernel
theorem dX10_row_51 : decode t_X10_row.2.1 51 = .ok (.iastore, 1) := by decide +kernel
theorem dX10_row_52 : decode t_X10_row.2.1 52 = .ok (.iinc 3 1, 3) := by decide +kernel
theorem dX10_row_55 : decode t_X10_row.2.1 55 = .ok (.goto (-21), 3) := by decide +kernel
theorem dX10_row_58 : decode t_X10_row.2.1 58 = .ok (.iload_n 2, 1) := by decide +kernel
theorem dX10_row_59 : decode t_X10_row.2.1 59 = .ok (.ireturn, 1) := by decide +kernel
theorem wd_1277 : Cond.code yX10_lay cX10_lay 5 (some .int) ∈ lw_gd := List.mem_filter.mpr ⟨List.mem_of_getElem? (i := 1277) (by decide +kernel), by decide +kernel⟩
theorem wd_1275 : Cond.instanceMethod yX10_lay ∈ lw_gd := List.mem_filter.mpr ⟨List.mem_of_getElem? (i := 1275) (by decide +kernel), by decide +kernel⟩
theorem wd_1276 : Cond.selects RX10 yX10_lay yX10_lay ∈ lw_gd := List.mem_filter.mpr ⟨List.mem_of_getElem? (i := 1276) (by decide +kernel), by decide +kernel⟩
theorem vX10_lay : wm_calV t_X10_lay 3 := ⟨⟨wd_1277, wd_88, by decide +kernel, by decide +kernel, by decide +kernel⟩, wd_1275, wd_1276⟩
theorem dX10_lay_0 : decode t_X10_lay.2.1 0 = .ok (.iload_n 1, 1) := by decide +kernel
theorem dX10_lay_1 : decode t_X10_lay.2.1 1 = .ok (.invokestatic 107, 3) := by decide +kernel
theorem iX10_lay_1 : wm_is t_X10_lay t_X10_isRow 1 := ⟨107, wd_1267, dX10_lay_1⟩
theorem dX10_lay_4 : decode t_X10_lay.2.1 4 = .ok (.ifCond .ne 5, 3) := by decide +kernel
theorem dX10_lay_7 : decode t_X10_lay.2.1 7 = .ok (.iconst (-1), 1) := by decide +kernel
theorem dX10_lay_8 : decode t_X10_lay.2.1 8 = .ok (.ireturn, 1) := by decide +kernel
theorem dX10_lay_9 : decode t_X10_lay.2.1 9 = .ok (.aload_n 0, 1) := by decide +kernel
theorem dX10_lay_10 : decode t_X10_lay.2.1 10 = .ok (.getfield 13, 3) := by decide +kernel
theorem gX10_lay_10 : wm_gf t_X10_lay 10 10 5 := ⟨_, _, _, 13, rfl, by decide, wd_1119, dX10_lay_10⟩
theorem dX10_lay_13 : decode t_X10_lay.2.1 13 = .ok (.iload_n 1, 1) := by decide +kernel
theorem dX10_lay_14 : decode t_X10_lay.2.1 14 = .ok (.iaload, 1) := by decide +kernel
theorem dX10_lay_15 : decode t_X10_lay.2.1 15 = .ok (.ifCond .ge 9, 3) := by decide +kernel
theorem dX10_lay_18 : decode t_X10_lay.2.1 18 = .ok (.aload_n 0, 1) := by decide +kernel
theorem dX10_lay_19 : decode t_X10_lay.2.1 19 = .ok (.iconst 1, 1) := by decide +kernel
theorem dX10_lay_20 : decode t_X10_lay.2.1 20 = .ok (.invokevirtual 111, 3) := by decide +kernel
theorem iX10_lay_20 : wm_iv t_X10_lay t_X10_meets 20 := ⟨111, wd_1270, dX10_lay_20⟩
theorem dX10_lay_23 : decode t_X10_lay.2.1 23 = .ok (.ireturn, 1) := by decide +kernel
theorem dX10_lay_24 : decode t_X10_lay.2.1 24 = .ok (.iload_n 2, 1) := by decide +kernel
theorem dX10_lay_25 : decode t_X10_lay.2.1 25 = .ok (.iconst 0, 1) := by decide +kernel
theorem dX10_lay_26 : decode t_X10_lay.2.1 26 = .ok (.aload_n 0, 1) := by decide +kernel
theorem dX10_lay_27 : decode t_X10_lay.2.1 27 = .ok (.getfield 13, 3) := by decide +kernel
theorem gX10_lay_27 : wm_gf t_X10_lay 27 10 5 := ⟨_, _, _, 13, rfl, by decide, wd_1119, dX10_lay_27⟩
theorem dX10_lay_30 : decode t_X10_lay.2.1 30 = .ok (.iload_n 1, 1) := by decide +kernel
theorem dX10_lay_31 : decode t_X10_lay.2.1 31 = .ok (.iaload, 1) := by decide +kernel
theorem dX10_lay_32 : decode t_X10_lay.2.1 32 = .ok (.iconst 1, 1) := by decide +kernel
theorem dX10_lay_33 : decode t_X10_lay.2.1 33 = .ok (.isub, 1) := by decide +kernel
theorem dX10_lay_34 : decode t_X10_lay.2.1 34 = .ok (.invokestatic 97, 3) := by decide +kernel
theorem iX10_lay_34 : wm_is t_X10_lay t_X10_in 34 := ⟨97, wd_1248, dX10_lay_34⟩
theorem dX10_lay_37 : decode t_X10_lay.2.1 37 = .ok (.ifCond .ne 9, 3) := by decide +kernel
theorem dX10_lay_40 : decode t_X10_lay.2.1 40 = .ok (.aload_n 0, 1) := by decide +kernel
theorem dX10_lay_41 : decode t_X10_lay.2.1 41 = .ok (.iconst 2, 1) := by decide +kernel
theorem dX10_lay_42 : decode t_X10_lay.2.1 42 = .ok (.invokevirtual 111, 3) := by decide +kernel
theorem iX10_lay_42 : wm_iv t_X10_lay t_X10_meets 42 := ⟨111, wd_1270, dX10_lay_42⟩
theorem dX10_lay_45 : decode t_X10_lay.2.1 45 = .ok (.ireturn, 1) := by decide +kernel
theorem dX10_lay_46 : decode t_X10_lay.2.1 46 = .ok (.aload_n 0, 1) := by decide +kernel
theorem dX10_lay_47 : decode t_X10_lay.2.1 47 = .ok (.iload_n 1, 1) := by decide +kernel
theorem dX10_lay_48 : decode t_X10_lay.2.1 48 = .ok (.iload_n 2, 1) := by decide +kernel
theorem dX10_lay_49 : decode t_X10_lay.2.1 49 = .ok (.invokevirtual 115, 3) := by decide +kernel
theorem wd_1278 : Cond.methodLink RX10 115 yX10_rowAt ∈ lw_gd := List.mem_filter.mpr ⟨List.mem_of_getElem? (i := 1278) (by decide +kernel), by decide +kernel⟩
theorem iX10_lay_49 : wm_iv t_X10_lay t_X10_rowAt 49 := ⟨115, wd_1278, dX10_lay_49⟩
theorem dX10_lay_52 : decode t_X10_lay.2.1 52 = .ok (.istore 4, 2) := by decide +kernel
theorem dX10_lay_54 : decode t_X10_lay.2.1 54 = .ok (.aload_n 0, 1) := by decide +kernel
theorem dX10_lay_55 : decode t_X10_lay.2.1 55 = .ok (.getfield 16, 3) := by decide +kernel
theorem gX10_lay_55 : wm_gf t_X10_lay 55 10 6 := ⟨_, _, _, 16, rfl, by decide, wd_1120, dX10_lay_55⟩
theorem dX10_lay_58 : decode t_X10_lay.2.1 58 = .ok (.bipush 60, 2) := by decide +kernel
theorem dX10_lay_60 : decode t_X10_lay.2.1 60 = .ok (.iload_n 1, 1) := by decide +kernel
theorem dX10_lay_61 : decode t_X10_lay.2.1 61 = .ok (.imul, 1) := by decide +kernel
theorem dX10_lay_62 : decode t_X10_lay.2.1 62 = .ok (.iload_n 2, 1) := by decide +kernel
theorem dX10_lay_63 : decode t_X10_lay.2.1 63 = .ok (.iadd, 1) := by decide +kernel
theorem dX10_lay_64 : decode t_X10_lay.2.1 64 = .ok (.iload_n 3, 1) := by decide +kernel
theorem dX10_lay_65 : decode t_X10_lay.2.1 65 = .ok (.iastore, 1) := by decide +kernel
theorem dX10_lay_66 : decode t_X10_lay.2.1 66 = .ok (.aload_n 0, 1) := by decide +kernel
theorem dX10_lay_67 : decode t_X10_lay.2.1 67 = .ok (.iload 4, 2) := by decide +kernel
theorem dX10_lay_69 : decode t_X10_lay.2.1 69 = .ok (.iconst 1, 1) := by decide +kernel
theorem dX10_lay_70 : decode t_X10_lay.2.1 70 = .ok (.invokevirtual 119, 3) := by decide +kernel
theorem wd_1282 : Cond.methodLink RX10 119 yX10_tells ∈ lw_gd := List.mem_filter.mpr ⟨List.mem_of_getElem? (i := 1282) (by decide +kernel), by decide +kernel⟩
theorem iX10_lay_70 : wm_iv t_X10_lay t_X10_tells 70 := ⟨119, wd_1282, dX10_lay_70⟩
theorem dX10_lay_73 : decode t_X10_lay.2.1 73 = .ok (.ireturn, 1) := by decide +kernel
theorem wd_1289 : Cond.code yX10_at cX10_at 3 (some .int) ∈ lw_gd := List.mem_filter.mpr ⟨List.mem_of_getElem? (i := 1289) (by decide +kernel), by decide +kernel⟩
theorem wd_1287 : Cond.instanceMethod yX10_at ∈ lw_gd := List.mem_filter.mpr ⟨List.mem_of_getElem? (i := 1287) (by decide +kernel), by decide +kernel⟩
theorem wd_1288 : Cond.selects RX10 yX10_at yX10_at ∈ lw_gd := List.mem_filter.mpr ⟨List.mem_of_getElem? (i := 1288) (by decide +kernel), by decide +kernel⟩
theorem vX10_at : wm_calV t_X10_at 2 := ⟨⟨wd_1289, wd_88, by decide +kernel, by decide +kernel, by decide +kernel⟩, wd_1287, wd_1288⟩
theorem dX10_at_0 : decode t_X10_at.2.1 0 = .ok (.iload_n 1, 1) := by decide +kernel
theorem dX10_at_1 : decode t_X10_at.2.1 1 = .ok (.invokestatic 107, 3) := by decide +kernel
theorem iX10_at_1 : wm_is t_X10_at t_X10_isRow 1 := ⟨107, wd_1267, dX10_at_1⟩
theorem dX10_at_4 : decode t_X10_at.2.1 4 = .ok (.ifCond .ne 5, 3) := by decide +kernel
theorem dX10_at_7 : decode t_X10_at.2.1 7 = .ok (.iconst (-1), 1) := by decide +kernel
theorem dX10_at_8 : decode t_X10_at.2.1 8 = .ok (.ireturn, 1) := by decide +kernel
theorem dX10_at_9 : decode t_X10_at.2.1 9 = .ok (.aload_n 0, 1) := by decide +kernel
theorem dX10_at_10 : decode t_X10_at.2.1 10 = .ok (.getfield 13, 3) := by decide +kernel
theorem gX10_at_10 : wm_gf t_X10_at 10 10 5 := ⟨_, _, _, 13, rfl, by decide, wd_1119, dX10_at_10⟩
theorem dX10_at_13 : decode t_X10_at.2.1 13 = .ok (.iload_n 1, 1) := by decide +kernel
theorem dX10_at_14 : decode t_X10_at.2.1 14 = .ok (.iaload, 1) := by decide +kernel
theorem dX10_at_15 : decode t_X10_at.2.1 15 = .ok (.ifCond .ge 9, 3) := by decide +kernel
theorem dX10_at_18 : decode t_X10_at.2.1 18 = .ok (.aload_n 0, 1) := by decide +kernel
theorem dX10_at_19 : decode t_X10_at.2.1 19 = .ok (.iconst 1, 1) := by decide +kernel
theorem dX10_at_20 : decode t_X10_at.2.1 20 = .ok (.invokevirtual 111, 3) := by decide +kernel
theorem iX10_at_20 : wm_iv t_X10_at t_X10_meets 20 := ⟨111, wd_1270, dX10_at_20⟩
theorem dX10_at_23 : decode t_X10_at.2.1 23 = .ok (.ireturn, 1) := by decide +kernel
theorem dX10_at_24 : decode t_X10_at.2.1 24 = .ok (.iload_n 2, 1) := by decide +kernel
theorem dX10_at_25 : decode t_X10_at.2.1 25 = .ok (.iconst 0, 1) := by decide +kernel
theorem dX10_at_26 : decode t_X10_at.2.1 26 = .ok (.aload_n 0, 1) := by decide +kernel
theorem dX10_at_27 : decode t_X10_at.2.1 27 = .ok (.getfield 13, 3) := by decide +kernel
theorem gX10_at_27 : wm_gf t_X10_at 27 10 5 := ⟨_, _, _, 13, rfl, by decide, wd_1119, dX10_at_27⟩
theorem dX10_at_30 : decode t_X10_at.2.1 30 = .ok (.iload_n 1, 1) := by decide +kernel
theorem dX10_at_31 : decode t_X10_at.2.1 31 = .ok (.iaload, 1) := by decide +kernel
theorem dX10_at_32 : decode t_X10_at.2.1 32 = .ok (.iconst 1, 1) := by decide +kernel
theorem dX10_at_33 : decode t_X10_at.2.1 33 = .ok (.isub, 1) := by decide +kernel
theorem dX10_at_34 : decode t_X10_at.2.1 34 = .ok (.invokestatic 97, 3) := by decide +kernel
theorem iX10_at_34 : wm_is t_X10_at t_X10_in 34 := ⟨97, wd_1248, dX10_at_34⟩
theorem dX10_at_37 : decode t_X10_at.2.1 37 = .ok (.ifCond .eq 17, 3) := by decide +kernel
theorem dX10_at_40 : decode t_X10_at.2.1 40 = .ok (.aload_n 0, 1) := by decide +kernel
theorem dX10_at_41 : decode t_X10_at.2.1 41 = .ok (.aload_n 0, 1) := by decide +kernel
theorem dX10_at_42 : decode t_X10_at.2.1 42 = .ok (.iload_n 1, 1) := by decide +kernel
theorem dX10_at_43 : decode t_X10_at.2.1 43 = .ok (.iload_n 2, 1) := by decide +kernel
theorem dX10_at_44 : decode t_X10_at.2.1 44 = .ok (.invokevirtual 115, 3) := by decide +kernel
theorem iX10_at_44 : wm_iv t_X10_at t_X10_rowAt 44 := ⟨115, wd_1278, dX10_at_44⟩
theorem dX10_at_47 : decode t_X10_at.2.1 47 = .ok (.iconst 1, 1) := by decide +kernel
theorem dX10_at_48 : decode t_X10_at.2.1 48 = .ok (.invokevirtual 119, 3) := by decide +kernel
theorem iX10_at_48 : wm_iv t_X10_at t_X10_tells 48 := ⟨119, wd_1282, dX10_at_48⟩
theorem dX10_at_51 : decode t_X10_at.2.1 51 = .ok (.goto 8, 3) := by decide +kernel
theorem dX10_at_54 : decode t_X10_at.2.1 54 = .ok (.aload_n 0, 1) := by decide +kernel
theorem dX10_at_55 : decode t_X10_at.2.1 55 = .ok (.iconst 2, 1) := by decide +kernel
theorem dX10_at_56 : decode t_X10_at.2.1 56 = .ok (.invokevirtual 111, 3) := by decide +kernel
theorem iX10_at_56 : wm_iv t_X10_at t_X10_meets 56 := ⟨111, wd_1270, dX10_at_56⟩
theorem dX10_at_59 : decode t_X10_at.2.1 59 = .ok (.ireturn, 1) := by decide +kernel
theorem wd_1293 : Cond.code yX10_tear cX10_tear 2 (some .int) ∈ lw_gd := List.mem_filter.mpr ⟨List.mem_of_getElem? (i := 1293) (by decide +kernel), by decide +kernel⟩
theorem wd_1291 : Cond.instanceMethod yX10_tear ∈ lw_gd := List.mem_filter.mpr ⟨List.mem_of_getElem? (i := 1291) (by decide +kernel), by decide +kernel⟩
theorem wd_1292 : Cond.selects RX10 yX10_tear yX10_tear ∈ lw_gd := List.mem_filter.mpr ⟨List.mem_of_getElem? (i := 1292) (by decide +kernel), by decide +kernel⟩
theorem vX10_tear : wm_calV t_X10_tear 1 := ⟨⟨wd_1293, wd_88, by decide +kernel, by decide +kernel, by decide +kernel⟩, wd_1291, wd_1292⟩
theorem dX10_tear_0 : decode t_X10_tear.2.1 0 = .ok (.iload_n 1, 1) := by decide +kernel
theorem dX10_tear_1 : decode t_X10_tear.2.1 1 = .ok (.invokestatic 107, 3) := by decide +kernel
theorem iX10_tear_1 : wm_is t_X10_tear t_X10_isRow 1 := ⟨107, wd_1267, dX10_tear_1⟩
theorem dX10_tear_4 : decode t_X10_tear.2.1 4 = .ok (.ifCond .ne 5, 3) := by decide +kernel
theorem dX10_tear_7 : decode t_X10_tear.2.1 7 = .ok (.iconst (-1), 1) := by decide +kernel
theorem dX10_tear_8 : decode t_X10_tear.2.1 8 = .ok (.ireturn, 1) := by decide +kernel
theorem dX10_tear_9 : decode t_X10_tear.2.1 9 = .ok (.aload_n 0, 1) := by decide +kernel
theorem dX10_tear_10 : decode t_X10_tear.2.1 10 = .ok (.getfield 13, 3) := by decide +kernel
theorem gX10_tear_10 : wm_gf t_X10_tear 10 10 5 := ⟨_, _, _, 13, rfl, by decide, wd_1119, dX10_tear_10⟩
theorem dX10_tear_13 : decode t_X10_tear.2.1 13 = .ok (.iload_n 1, 1) := by decide +kernel
theorem dX10_tear_14 : decode t_X10_tear.2.1 14 = .ok (.iaload, 1) := by decide +kernel
theorem dX10_tear_15 : decode t_X10_tear.2.1 15 = .ok (.ifCond .ge 9, 3) := by decide +kernel
theorem dX10_tear_18 : decode t_X10_tear.2.1 18 = .ok (.aload_n 0, 1) := by decide +kernel
theorem dX10_tear_19 : decode t_X10_tear.2.1 19 = .ok (.iconst 1, 1) := by decide +kernel
theorem dX10_tear_20 : decode t_X10_tear.2.1 20 = .ok (.invokevirtual 111, 3) := by decide +kernel
theorem iX10_tear_20 : wm_iv t_X10_tear t_X10_meets 20 := ⟨111, wd_1270, dX10_tear_20⟩
theorem dX10_tear_23 : decode t_X10_tear.2.1 23 = .ok (.ireturn, 1) := by decide +kernel
theorem dX10_tear_24 : decode t_X10_tear.2.1 24 = .ok (.aload_n 0, 1) := by decide +kernel
theorem dX10_tear_25 : decode t_X10_tear.2.1 25 = .ok (.getfield 13, 3) := by decide +kernel
theorem gX10_tear_25 : wm_gf t_X10_tear 25 10 5 := ⟨_, _, _, 13, rfl, by decide, wd_1119, dX10_tear_25⟩
theorem dX10_tear_28 : decode t_X10_tear.2.1 28 = .ok (.iload_n 1, 1) := by decide +kernel
theorem dX10_tear_29 : decode t_X10_tear.2.1 29 = .ok (.iconst (-1), 1) := by decide +kernel
theorem dX10_tear_30 : decode t_X10_tear.2.1 30 = .ok (.iastore, 1) := by decide +kernel
theorem dX10_tear_31 : decode t_X10_tear.2.1 31 = .ok (.iconst 1, 1) := by decide +kernel
theorem dX10_tear_32 : decode t_X10_tear.2.1 32 = .ok (.ireturn, 1) := by decide +kernel
theorem wd_1297 : Cond.code yX10_copy cX10_copy 7 (some .int) ∈ lw_gd := List.mem_filter.mpr ⟨List.mem_of_getElem? (i := 1297) (by decide +kernel), by decide +kernel⟩
theorem wd_1295 : Cond.instanceMethod yX10_copy ∈ lw_gd := List.mem_filter.mpr ⟨List.mem_of_getElem? (i := 1295) (by decide +kernel), by decide +kernel⟩
theorem wd_1296 : Cond.selects RX10 yX10_copy yX10_copy ∈ lw_gd := List.mem_filter.mpr ⟨List.mem_of_getElem? (i := 1296) (by decide +kernel), by decide +kernel⟩
theorem vX10_copy : wm_calV t_X10_copy 5 := ⟨⟨wd_1297, wd_88, by decide +kernel, by decide +kernel, by decide +kernel⟩, wd_1295, wd_1296⟩
theorem dX10_copy_0 : decode t_X10_copy.2.1 0 = .ok (.iload_n 1, 1) := by decide +kernel
theorem dX10_copy_1 : decode t_X10_copy.2.1 1 = .ok (.invokestatic 107, 3) := by decide +kernel
theorem iX10_copy_1 : wm_is t_X10_copy t_X10_isRow 1 := ⟨107, wd_1267, dX10_copy_1⟩
theorem dX10_copy_4 : decode t_X10_copy.2.1 4 = .ok (.ifCond .eq 10, 3) := by decide +kernel
theorem dX10_copy_7 : decode t_X10_copy.2.1 7 = .ok (.iload_n 3, 1) := by decide +kernel
theorem dX10_copy_8 : decode t_X10_copy.2.1 8 = .ok (.invokestatic 107, 3) := by decide +kernel
theorem iX10_copy_8 : wm_is t_X10_copy t_X10_isRow 8 := ⟨107, wd_1267, dX10_copy_8⟩
theorem dX10_copy_11 : decode t_X10_copy.2.1 11 = .ok (.ifCond .ne 5, 3) := by decide +kernel
theorem dX10_copy_14 : decode t_X10_copy.2.1 14 = .ok (.iconst (-1), 1) := by decide +kernel
theorem dX10_copy_15 : decode t_X10_copy.2.1 15 = .ok (.ireturn, 1) := by decide +kernel
theorem dX10_copy_16 : decode t_X10_copy.2.1 16 = .ok (.iload 5, 2) := by decide +kernel
theorem dX10_copy_18 : decode t_X10_copy.2.1 18 = .ok (.ifCond .ge 9, 3) := by decide +kernel
theorem dX10_copy_21 : decode t_X10_copy.2.1 21 = .ok (.aload_n 0, 1) := by decide +kernel
theorem dX10_copy_22 : decode t_X10_copy.2.1 22 = .ok (.iconst 5, 1) := by decide +kernel
theorem dX10_copy_23 : decode t_X10_copy.2.1 23 = .ok (.invokevirtual 111, 3) := by decide +kernel
theorem iX10_copy_23 : wm_iv t_X10_copy t_X10_meets 23 := ⟨111, wd_1270, dX10_copy_23⟩
theorem dX10_copy_26 : decode t_X10_copy.2.1 26 = .ok (.ireturn, 1) := by decide +kernel
theorem dX10_copy_27 : decode t_X10_copy.2.1 27 = .ok (.aload_n 0, 1) := by decide +kernel
theorem dX10_copy_28 : decode t_X10_copy.2.1 28 = .ok (.getfield 13, 3) := by decide +kernel
theorem gX10_copy_28 : wm_gf t_X10_copy 28 10 5 := ⟨_, _, _, 13, rfl, by decide, wd_1119, dX10_copy_28⟩
theorem dX10_copy_31 : decode t_X10_copy.2.1 31 = .ok (.iload_n 1, 1) := by decide +kernel
theorem dX10_copy_32 : decode t_X10_copy.2.1 32 = .ok (.iaload, 1) := by decide +kernel
theorem dX10_copy_33 : decode t_X10_copy.2.1 33 = .ok (.ifCond .lt 12, 3) := by decide +kernel
theorem dX10_copy_36 : decode t_X10_copy.2.1 36 = .ok (.aload_n 0, 1) := by decide +kernel
theorem dX10_copy_37 : decode t_X10_copy.2.1 37 = .ok (.getfield 13, 3) := by decide +kernel
theorem gX10_copy_37 : wm_gf t_X10_copy 37 10 5 := ⟨_, _, _, 13, rfl, by decide, wd_1119, dX10_copy_37⟩
theorem dX10_copy_40 : decode t_X10_copy.2.1 40 = .ok (.iload_n 3, 1) := by decide +kernel
theorem dX10_copy_41 : decode t_X10_copy.2.1 41 = .ok (.iaload, 1) := by decide +kernel
theorem dX10_copy_42 : decode t_X10_copy.2.1 42 = .ok (.ifCond .ge 9, 3) := by decide +kernel
theorem dX10_copy_45 : decode t_X10_copy.2.1 45 = .ok (.aload_n 0, 1) := by decide +kernel
theorem dX10_copy_46 : decode t_X10_copy.2.1 46 = .ok (.iconst 1, 1) := by decide +kernel
theorem dX10_copy_47 : decode t_X10_copy.2.1 47 = .ok (.invokevirtual 111, 3) := by decide +kernel
theorem iX10_copy_47 : wm_iv t_X10_copy t_X10_meets 47 := ⟨111, wd_1270, dX10_copy_47⟩
theorem dX10_copy_50 : decode t_X10_copy.2.1 50 = .ok (.ireturn, 1) := by decide +kernel
theorem dX10_copy_51 : decode t_X10_copy.2.1 51 = .ok (.iload_n 2, 1) := by decide +kernel
theorem dX10_copy_52 : decode t_X10_copy.2.1 52 = .ok (.ifCond .lt 43, 3) := by decide +kernel
theorem dX10_copy_55 : decode t_X10_copy.2.1 55 = .ok (.iload 4, 2) := by decide +kernel
theorem dX10_copy_57 : decode t_X10_copy.2.1 57 = .ok (.ifCond .lt 38, 3) := by decide +kernel
theorem dX10_copy_60 : decode t_X10_copy.2.1 60 = .ok (.iload_n 2, 1) := by decide +kernel
theorem dX10_copy_61 : decode t_X10_copy.2.1 61 = .ok (.i2l, 1) := by decide +kernel
theorem dX10_copy_62 : decode t_X10_copy.2.1 62 = .ok (.iload 5, 2) := by decide +kernel
theorem dX10_copy_64 : decode t_X10_copy.2.1 64 = .ok (.i2l, 1) := by decide +kernel
theorem dX10_copy_65 : decode t_X10_copy.2.1 65 = .ok (.ladd, 1) := by decide +kernel
theorem dX10_copy_66 : decode t_X10_copy.2.1 66 = .ok (.aload_n 0, 1) := by decide +kernel
theorem dX10_copy_67 : decode t_X10_copy.2.1 67 = .ok (.getfield 13, 3) := by decide +kernel
theorem gX10_copy_67 : wm_gf t_X10_copy 67 10 5 := ⟨_, _, _, 13, rfl, by decide, wd_1119, dX10_copy_67⟩
theorem dX10_copy_70 : decode t_X10_copy.2.1 70 = .ok (.iload_n 1, 1) := by decide +kernel
theorem dX10_copy_71 : decode t_X10_copy.2.1 71 = .ok (.iaload, 1) := by decide +kernel
theorem dX10_copy_72 : decode t_X10_copy.2.1 72 = .ok (.i2l, 1) := by decide +kernel
theorem dX10_copy_73 : decode t_X10_copy.2.1 73 = .ok (.lcmp, 1) := by decide +kernel
theorem dX10_copy_74 : decode t_X10_copy.2.1 74 = .ok (.ifCond .gt 21, 3) := by decide +kernel
theorem dX10_copy_77 : decode t_X10_copy.2.1 77 = .ok (.iload 4, 2) := by decide +kernel
theorem dX10_copy_79 : decode t_X10_copy.2.1 79 = .ok (.i2l, 1) := by decide +kernel
theorem dX10_copy_80 : decode t_X10_copy.2.1 80 = .ok (.iload 5, 2) := by decide +kernel
theorem dX10_copy_82 : decode t_X10_copy.2.1 82 = .ok (.i2l, 1) := by decide +kernel
theorem dX10_copy_83 : decode t_X10_copy.2.1 83 = .ok (.ladd, 1) := by decide +kernel
theorem dX10_copy_84 : decode t_X10_copy.2.1 84 = .ok (.aload_n 0, 1) := by decide +kernel
theorem dX10_copy_85 : decode t_X10_copy.2.1 85 = .ok (.getfield 13, 3) := by decide +kernel
theorem gX10_copy_85 : wm_gf t_X10_copy 85 10 5 := ⟨_, _, _, 13, rfl, by decide, wd_1119, dX10_copy_85⟩
theorem dX10_copy_88 : decode t_X10_copy.2.1 88 = .ok (.iload_n 3, 1) := by decide +kernel
theorem dX10_copy_89 : decode t_X10_copy.2.1 89 = .ok (.iaload, 1) := by decide +kernel
theorem dX10_copy_90 : decode t_X10_copy.2.1 90 = .ok (.i2l, 1) := by decide +kernel
theorem dX10_copy_91 : decode t_X10_copy.2.1 91 = .ok (.lcmp, 1) := by decide +kernel
theorem dX10_copy_92 : decode t_X10_copy.2.1 92 = .ok (.ifCond .le 9, 3) := by decide +kernel
theorem dX10_copy_95 : decode t_X10_copy.2.1 95 = .ok (.aload_n 0, 1) := by decide +kernel
theorem dX10_copy_96 : decode t_X10_copy.2.1 96 = .ok (.iconst 2, 1) := by decide +kernel
theorem dX10_copy_97 : decode t_X10_copy.2.1 97 = .ok (.invokevirtual 111, 3) := by decide +kernel
theorem iX10_copy_97 : wm_iv t_X10_copy t_X10_meets 97 := ⟨111, wd_1270, dX10_copy_97⟩
theorem dX10_copy_100 : decode t_X10_copy.2.1 100 = .ok (.ireturn, 1) := by decide +kernel
theorem dX10_copy_101 : decode t_X10_copy.2.1 101 = .ok (.iconst 0, 1) := by decide +kernel
theorem dX10_copy_102 : decode t_X10_copy.2.1 102 = .ok (.istore 6, 2) := by decide +kernel
theorem dX10_copy_104 : decode t_X10_copy.2.1 104 = .ok (.iload 6, 2) := by decide +kernel
theorem dX10_copy_106 : decode t_X10_copy.2.1 106 = .ok (.iload 5, 2) := by decide +kernel
theorem dX10_copy_108 : decode t_X10_copy.2.1 108 = .ok (.if_icmp .ge 25, 3) := by decide +kernel
theorem dX10_copy_111 : decode t_X10_copy.2.1 111 = .ok (.aload_n 0, 1) := by decide +kernel
theorem dX10_copy_112 : decode t_X10_copy.2.1 112 = .ok (.getfield 19, 3) := by decide +kernel
theorem wd_1121 : Cond.fieldLink RX10 19 "TurnedStonesModel" "copied" "[I" ∈ lw_gd := List.mem_filter.mpr ⟨List.mem_of_getElem? (i := 1121) (by decide +kernel), by decide +kernel⟩
theorem gX10_copy_112 : wm_gf t_X10_copy 112 10 7 := ⟨_, _, _, 19, rfl, by decide, wd_1121, dX10_copy_112⟩
theorem dX10_copy_115 : decode t_X10_copy.2.1 115 = .ok (.iload 6, 2) := by decide +kernel
theorem dX10_copy_117 : decode t_X10_copy.2.1 117 = .ok (.aload_n 0, 1) := by decide +kernel
theorem dX10_copy_118 : decode t_X10_copy.2.1 118 = .ok (.iload_n 1, 1) := by decide +kernel
theorem dX10_copy_119 : decode t_X10_copy.2.1 119 = .ok (.iload_n 2, 1) := by decide +kernel
theorem dX10_copy_120 : decode t_X10_copy.2.1 120 = .ok (.iload 6, 2) := by decide +kernel
theorem dX10_copy_122 : decode t_X10_copy.2.1 122 = .ok (.iadd, 1) := by decide +kernel
theorem dX10_copy_123 : decode t_X10_copy.2.1 123 = .ok (.invokevirtual 115, 3) := by decide +kernel
theorem iX10_copy_123 : wm_iv t_X10_copy t_X10_rowAt 123 := ⟨115, wd_1278, dX10_copy_123⟩
theorem dX10_copy_126 : decode t_X10_copy.2.1 126 = .ok (.iastore, 1) := by decide +kernel
theorem dX10_copy_127 : decode t_X10_copy.2.1 127 = .ok (.iinc 6 1, 3) := by decide +kernel
theorem dX10_copy_130 : decode t_X10_copy.2.1 130 = .ok (.goto (-26), 3) := by decide +kernel
theorem dX10_copy_133 : decode t_X10_copy.2.1 133 = .ok (.iconst 0, 1) := by decide +kernel
theorem dX10_copy_134 : decode t_X10_copy.2.1 134 = .ok (.istore 6, 2) := by decide +kernel
theorem dX10_copy_136 : decode t_X10_copy.2.1 136 = .ok (.iload 6, 2) := by decide +kernel
theorem dX10_copy_138 : decode t_X10_copy.2.1 138 = .ok (.iload 5, 2) := by decide +kernel
theorem dX10_copy_140 : decode t_X10_copy.2.1 140 = .ok (.if_icmp .ge 31, 3) := by decide +kernel
theorem dX10_copy_143 : decode t_X10_copy.2.1 143 = .ok (.aload_n 0, 1) := by decide +kernel
theorem dX10_copy_144 : decode t_X10_copy.2.1 144 = .ok (.getfield 16, 3) := by decide +kernel
theorem gX10_copy_144 : wm_gf t_X10_copy 144 10 6 := ⟨_, _, _, 16, rfl, by decide, wd_1120, dX10_copy_144⟩
theorem dX10_copy_147 : decode t_X10_copy.2.1 147 = .ok (.bipush 60, 2) := by decide +kernel
theorem dX10_copy_149 : decode t_X10_copy.2.1 149 = .ok (.iload_n 3, 1) := by decide +kernel
theorem dX10_copy_150 : decode t_X10_copy.2.1 150 = .ok (.imul, 1) := by decide +kernel
theorem dX10_copy_151 : decode t_X10_copy.2.1 151 = .ok (.iload 4, 2) := by decide +kernel
theorem dX10_copy_153 : decode t_X10_copy.2.1 153 = .ok (.iadd, 1) := by decide +kernel
theorem dX10_copy_154 : decode t_X10_copy.2.1 154 = .ok (.iload 6, 2) := by decide +kernel
theorem dX10_copy_156 : decode t_X10_copy.2.1 156 = .ok (.iadd, 1) := by decide +kernel
theorem dX10_copy_157 : decode t_X10_copy.2.1 157 = .ok (.aload_n 0, 1) := by decide +kernel
theorem dX10_copy_158 : decode t_X10_copy.2.1 158 = .ok (.getfield 19, 3) := by decide +kernel
theorem gX10_copy_158 : wm_gf t_X10_copy 158 10 7 := ⟨_, _, _, 19, rfl, by decide, wd_1121, dX10_copy_158⟩
theorem dX10_copy_161 : decode t_X10_copy.2.1 161 = .ok (.iload 6, 2) := by decide +kernel
theorem dX10_copy_163 : decode t_X10_copy.2.1 163 = .ok (.iaload, 1) := by decide +kernel
theorem dX10_copy_164 : decode t_X10_copy.2.1 164 = .ok (.iastore, 1) := by decide +kernel
theorem dX10_copy_165 : decode t_X10_copy.2.1 165 = .ok (.iinc 6 1, 3) := by decide +kernel
theorem dX10_copy_168 : decode t_X10_copy.2.1 168 = .ok (.goto (-32), 3) := by decide +kernel
theorem dX10_copy_171 : decode t_X10_copy.2.1 171 = .ok (.iconst 1, 1) := by decide +kernel
theorem dX10_copy_172 : decode t_X10_copy.2.1 172 = .ok (.ireturn, 1) := by decide +kernel
theorem wd_1301 : Cond.code yX10_mean cX10_mean 5 (some .int) ∈ lw_gd := List.mem_filter.mpr ⟨List.mem_of_getElem? (i := 1301) (by decide +kernel), by decide +kernel⟩
theorem wd_1299 : Cond.instanceMethod yX10_mean ∈ lw_gd := List.mem_filter.mpr ⟨List.mem_of_getElem? (i := 1299) (by decide +kernel), by decide +kernel⟩
theorem wd_1300 : Cond.selects RX10 yX10_mean yX10_mean ∈ lw_gd := List.mem_filter.mpr ⟨List.mem_of_getElem? (i := 1300) (by decide +kernel), by decide +kernel⟩
theorem vX10_mean : wm_calV t_X10_mean 1 := ⟨⟨wd_1301, wd_88, by decide +kernel, by decide +kernel, by decide +kernel⟩, wd_1299, wd_1300⟩
theorem dX10_mean_0 : decode t_X10_mean.2.1 0 = .ok (.iload_n 1, 1) := by decide +kernel
theorem dX10_mean_1 : decode t_X10_mean.2.1 1 = .ok (.invokestatic 107, 3) := by decide +kernel
theorem iX10_mean_1 : wm_is t_X10_mean t_X10_isRow 1 := ⟨107, wd_1267, dX10_mean_1⟩
theorem dX10_mean_4 : decode t_X10_mean.2.1 4 = .ok (.ifCond .ne 5, 3) := by decide +kernel
theorem dX10_mean_7 : decode t_X10_mean.2.1 7 = .ok (.iconst (-1), 1) := by decide +kernel
theorem dX10_mean_8 : decode t_X10_mean.2.1 8 = .ok (.ireturn, 1) := by decide +kernel
theorem dX10_mean_9 : decode t_X10_mean.2.1 9 = .ok (.aload_n 0, 1) := by decide +kernel
theorem dX10_mean_10 : decode t_X10_mean.2.1 10 = .ok (.getfield 13, 3) := by decide +kernel
theorem gX10_mean_10 : wm_gf t_X10_mean 10 10 5 := ⟨_, _, _, 13, rfl, by decide, wd_1119, dX10_mean_10⟩
theorem dX10_mean_13 : decode t_X10_mean.2.1 13 = .ok (.iload_n 1, 1) := by decide +kernel
theorem dX10_mean_14 : decode t_X10_mean.2.1 14 = .ok (.iaload, 1) := by decide +kernel
theorem dX10_mean_15 : decode t_X10_mean.2.1 15 = .ok (.ifCond .ge 9, 3) := by decide +kernel
theorem dX10_mean_18 : decode t_X10_mean.2.1 18 = .ok (.aload_n 0, 1) := by decide +kernel
theorem dX10_mean_19 : decode t_X10_mean.2.1 19 = .ok (.iconst 1, 1) := by decide +kernel
theorem dX10_mean_20 : decode t_X10_mean.2.1 20 = .ok (.invokevirtual 111, 3) := by decide +kernel
theorem iX10_mean_20 : wm_iv t_X10_mean t_X10_meets 20 := ⟨111, wd_1270, dX10_mean_20⟩
theorem dX10_mean_23 : decode t_X10_mean.2.1 23 = .ok (.ireturn, 1) := by decide +kernel
theorem dX10_mean_24 : decode t_X10_mean.2.1 24 = .ok (.aload_n 0, 1) := by decide +kernel
theorem dX10_mean_25 : decode t_X10_mean.2.1 25 = .ok (.getfield 13, 3) := by decide +kernel
theorem gX10_mean_25 : wm_gf t_X10_mean 25 10 5 := ⟨_, _, _, 13, rfl, by decide, wd_1119, dX10_mean_25⟩
theorem dX10_mean_28 : decode t_X10_mean.2.1 28 = .ok (.iload_n 1, 1) := by decide +kernel
theorem dX10_mean_29 : decode t_X10_mean.2.1 29 = .ok (.iaload, 1) := by decide +kernel
theorem dX10_mean_30 : decode t_X10_mean.2.1 30 = .ok (.ifCond .ne 9, 3) := by decide +kernel
theorem dX10_mean_33 : decode t_X10_mean.2.1 33 = .ok (.aload_n 0, 1) := by decide +kernel
theorem dX10_mean_34 : decode t_X10_mean.2.1 34 = .ok (.iconst 4, 1) := by decide +kernel
theorem dX10_mean_35 : decode t_X10_mean.2.1 35 = .ok (.invokevirtual 111, 3) := by decide +kernel
theorem iX10_mean_35 : wm_iv t_X10_mean t_X10_meets 35 := ⟨111, wd_1270, dX10_mean_35⟩
theorem dX10_mean_38 : decode t_X10_mean.2.1 38 = .ok (.ireturn, 1) := by decide +kernel
theorem dX10_mean_39 : decode t_X10_mean.2.1 39 = .ok (.lconst 0, 1) := by decide +kernel
theorem dX10_mean_40 : decode t_X10_mean.2.1 40 = .ok (.lstore_n 2, 1) := by decide +kernel
theorem dX10_mean_41 : decode t_X10_mean.2.1 41 = .ok (.iconst 0, 1) := by decide +kernel
theorem dX10_mean_42 : decode t_X10_mean.2.1 42 = .ok (.istore 4, 2) := by decide +kernel
theorem dX10_mean_44 : decode t_X10_mean.2.1 44 = .ok (.iload 4, 2) := by decide +kernel
theorem dX10_mean_46 : decode t_X10_mean.2.1 46 = .ok (.aload_n 0, 1) := by decide +kernel
theorem dX10_mean_47 : decode t_X10_mean.2.1 47 = .ok (.getfield 13, 3) := by decide +kernel
theorem gX10_mean_47 : wm_gf t_X10_mean 47 10 5 := ⟨_, _, _, 13, rfl, by decide, wd_1119, dX10_mean_47⟩
theorem dX10_mean_50 : decode t_X10_mean.2.1 50 = .ok (.iload_n 1, 1) := by decide +kernel
theorem dX10_mean_51 : decode t_X10_mean.2.1 51 = .ok (.iaload, 1) := by decide +kernel
theorem dX10_mean_52 : decode t_X10_mean.2.1 52 = .ok (.if_icmp .ge 20, 3) := by decide +kernel
theorem dX10_mean_55 : decode t_X10_mean.2.1 55 = .ok (.lload_n 2, 1) := by decide +kernel
theorem dX10_mean_56 : decode t_X10_mean.2.1 56 = .ok (.aload_n 0, 1) := by decide +kernel
theorem dX10_mean_57 : decode t_X10_mean.2.1 57 = .ok (.iload_n 1, 1) := by decide +kernel
theorem dX10_mean_58 : decode t_X10_mean.2.1 58 = .ok (.iload 4, 2) := by decide +kernel
theorem dX10_mean_60 : decode t_X10_mean.2.1 60 = .ok (.invokevirtual 115, 3) := by decide +kernel
theorem iX10_mean_60 : wm_iv t_X10_mean t_X10_rowAt 60 := ⟨115, wd_1278, dX10_mean_60⟩
theorem dX10_mean_63 : decode t_X10_mean.2.1 63 = .ok (.i2l, 1) := by decide +kernel
theorem dX10_mean_64 : decode t_X10_mean.2.1 64 = .ok (.ladd, 1) := by decide +kernel
theorem dX10_mean_65 : decode t_X10_mean.2.1 65 = .ok (.lstore_n 2, 1) := by decide +kernel
theorem dX10_mean_66 : decode t_X10_mean.2.1 66 = .ok (.iinc 4 1, 3) := by decide +kernel
theorem dX10_mean_69 : decode t_X10_mean.2.1 69 = .ok (.goto (-25), 3) := by decide +kernel
theorem dX10_mean_72 : decode t_X10_mean.2.1 72 = .ok (.aload_n 0, 1) := by decide +kernel
theorem dX10_mean_73 : decode t_X10_mean.2.1 73 = .ok (.lload_n 2, 1) := by decide +kernel
theorem dX10_mean_74 : decode t_X10_mean.2.1 74 = .ok (.aload_n 0, 1) := by decide +kernel
theorem dX10_mean_75 : decode t_X10_mean.2.1 75 = .ok (.getfield 13, 3) := by decide +kernel
theorem gX10_mean_75 : wm_gf t_X10_mean 75 10 5 := ⟨_, _, _, 13, rfl, by decide, wd_1119, dX10_mean_75⟩
theorem dX10_mean_78 : decode t_X10_mean.2.1 78 = .ok (.iload_n 1, 1) := by decide +kernel
theorem dX10_mean_79 : decode t_X10_mean.2.1 79 = .ok (.iaload, 1) := by decide +kernel
theorem dX10_mean_80 : decode t_X10_mean.2.1 80 = .ok (.i2l, 1) := by decide +kernel
theorem dX10_mean_81 : decode t_X10_mean.2.1 81 = .ok (.ldiv, 1) := by decide +kernel
theorem dX10_mean_82 : decode t_X10_mean.2.1 82 = .ok (.l2i, 1) := by decide +kernel
theorem dX10_mean_83 : decode t_X10_mean.2.1 83 = .ok (.iconst 1, 1) := by decide +kernel
theorem dX10_mean_84 : decode t_X10_mean.2.1 84 = .ok (.invokevirtual 119, 3) := by decide +kernel
theorem iX10_mean_84 : wm_iv t_X10_mean t_X10_tells 84 := ⟨119, wd_1282, dX10_mean_84⟩
theorem dX10_mean_87 : decode t_X10_mean.2.1 87 = .ok (.ireturn, 1) := by decide +kernel
theorem wd_1308 : Cond.code yX10_isText cX10_isText 1 (some .boolean) ∈ lw_gd := List.mem_filter.mpr ⟨List.mem_of_getElem? (i := 1308) (by decide +kernel), by decide +kernel⟩
theorem wd_1307 : Cond.static yX10_isText ∈ lw_gd := List.mem_filter.mpr ⟨List.mem_of_getElem? (i := 1307) (by decide +kernel), by decide +kernel⟩
theorem vX10_isText : wm_calS t_X10_isText 1 := ⟨⟨wd_1308, wd_88, by decide +kernel, by decide +kernel, by decide +kernel⟩, wd_1307⟩
theorem dX10_isText_0 : decode t_X10_isText.2.1 0 = .ok (.iload_n 0, 1) := by decide +kernel
theorem dX10_isText_1 : decode t_X10_isText.2.1 1 = .ok (.iconst 0, 1) := by decide +kernel
theorem dX10_isText_2 : decode t_X10_isText.2.1 2 = .ok (.iconst 3, 1) := by decide +kernel
theorem dX10_isText_3 : decode t_X10_isText.2.1 3 = .ok (.invokestatic 97, 3) := by decide +kernel
theorem iX10_isText_3 : wm_is t_X10_isText t_X10_in 3 := ⟨97, wd_1248, dX10_isText_3⟩
theorem dX10_isText_6 : decode t_X10_isText.2.1 6 = .ok (.ireturn, 1) := by decide +kernel
theorem wd_1305 : Cond.code yX10_text cX10_text 4 (some .int) ∈ lw_gd := List.mem_filter.mpr ⟨List.mem_of_getElem? (i := 1305) (by decide +kernel), by decide +kernel⟩
theorem wd_1303 : Cond.instanceMethod yX10_text ∈ lw_gd := List.mem_filter.mpr ⟨List.mem_of_getElem? (i := 1303) (by decide +kernel), by decide +kernel⟩
theorem wd_1304 : Cond.selects RX10 yX10_text yX10_text ∈ lw_gd := List.mem_filter.mpr ⟨List.mem_of_getElem? (i := 1304) (by decide +kernel), by decide +kernel⟩
theorem vX10_text : wm_calV t_X10_text 2 := ⟨⟨wd_1305, wd_88, by decide +kernel, by decide +kernel, by decide +kernel⟩, wd_1303, wd_1304⟩
theorem dX10_text_0 : decode t_X10_text.2.1 0 = .ok (.iload_n 1, 1) := by decide +kernel
theorem dX10_text_1 : decode t_X10_text.2.1 1 = .ok (.invokestatic 122, 3) := by decide +kernel
theorem wd_1306 : Cond.methodLink RX10 122 yX10_isText ∈ lw_gd := List.mem_filter.mpr ⟨List.mem_of_getElem? (i := 1306) (by decide +kernel), by decide +kernel⟩
theorem iX10_text_1 : wm_is t_X10_text t_X10_isText 1 := ⟨122, wd_1306, dX10_text_1⟩
theorem dX10_text_4 : decode t_X10_text.2.1 4 = .ok (.ifCond .eq 9, 3) := by decide +kernel
theorem dX10_text_7 : decode t_X10_text.2.1 7 = .ok (.iload_n 2, 1) := by decide +kernel
theorem dX10_text_8 : decode t_X10_text.2.1 8 = .ok (.bipush 80, 2) := by decide +kernel
theorem dX10_text_10 : decode t_X10_text.2.1 10 = .ok (.if_icmp .le 5, 3) := by decide +kernel
theorem dX10_text_13 : decode t_X10_text.2.1 13 = .ok (.iconst (-1), 1) := by decide +kernel
theorem dX10_text_14 : decode t_X10_text.2.1 14 = .ok (.ireturn, 1) := by decide +kernel
theorem dX10_text_15 : decode t_X10_text.2.1 15 = .ok (.iload_n 2, 1) := by decide +kernel
theorem dX10_text_16 : decode t_X10_text.2.1 16 = .ok (.ifCond .ge 9, 3) := by decide +kernel
theorem dX10_text_19 : decode t_X10_text.2.1 19 = .ok (.aload_n 0, 1) := by decide +kernel
theorem dX10_text_20 : decode t_X10_text.2.1 20 = .ok (.iconst 5, 1) := by decide +kernel
theorem dX10_text_21 : decode t_X10_text.2.1 21 = .ok (.invokevirtual 111, 3) := by decide +kernel
theorem iX10_text_21 : wm_iv t_X10_text t_X10_meets 21 := ⟨111, wd_1270, dX10_text_21⟩
theorem dX10_text_24 : decode t_X10_text.2.1 24 = .ok (.ireturn, 1) := by decide +kernel
theorem dX10_text_25 : decode t_X10_text.2.1 25 = .ok (.aload_n 0, 1) := by decide +kernel
theorem dX10_text_26 : decode t_X10_text.2.1 26 = .ok (.getfield 22, 3) := by decide +kernel
theorem wd_1122 : Cond.fieldLink RX10 22 "TurnedStonesModel" "textSizes" "[I" ∈ lw_gd := List.mem_filter.mpr ⟨List.mem_of_getElem? (i := 1122) (by decide +kernel), by decide +kernel⟩
theorem gX10_text_26 : wm_gf t_X10_text 26 10 8 := ⟨_, _, _, 22, rfl, by decide, wd_1122, dX10_text_26⟩
theorem dX10_text_29 : decode t_X10_text.2.1 29 = .ok (.iload_n 1, 1) := by decide +kernel
theorem dX10_text_30 : decode t_X10_text.2.1 30 = .ok (.iload_n 2, 1) := by decide +kernel
theorem dX10_text_31 : decode t_X10_text.2.1 31 = .ok (.iastore, 1) := by decide +kernel
theorem dX10_text_32 : decode t_X10_text.2.1 32 = .ok (.iconst 0, 1) := by decide +kernel
theorem dX10_text_33 : decode t_X10_text.2.1 33 = .ok (.istore_n 3, 1) := by decide +kernel
theorem dX10_text_34 : decode t_X10_text.2.1 34 = .ok (.iload_n 3, 1) := by decide +kernel
theorem dX10_text_35 : decode t_X10_text.2.1 35 = .ok (.bipush 80, 2) := by decide +kernel
theorem dX10_text_37 : decode t_X10_text.2.1 37 = .ok (.if_icmp .ge 22, 3) := by decide +kernel
theorem dX10_text_40 : decode t_X10_text.2.1 40 = .ok (.aload_n 0, 1) := by decide +kernel
theorem dX10_text_41 : decode t_X10_text.2.1 41 = .ok (.getfield 25, 3) := by decide +kernel
theorem wd_1123 : Cond.fieldLink RX10 25 "TurnedStonesModel" "bytes" "[B" ∈ lw_gd := List.mem_filter.mpr ⟨List.mem_of_getElem? (i := 1123) (by decide +kernel), by decide +kernel⟩
theorem gX10_text_41 : wm_gf t_X10_text 41 10 9 := ⟨_, _, _, 25, rfl, by decide, wd_1123, dX10_text_41⟩
theorem dX10_text_44 : decode t_X10_text.2.1 44 = .ok (.bipush 80, 2) := by decide +kernel
theorem dX10_text_46 : decode t_X10_text.2.1 46 = .ok (.iload_n 1, 1) := by decide +kernel
theorem dX10_text_47 : decode t_X10_text.2.1 47 = .ok (.imul, 1) := by decide +kernel
theorem dX10_text_48 : decode t_X10_text.2.1 48 = .ok (.iload_n 3, 1) := by decide +kernel
theorem dX10_text_49 : decode t_X10_text.2.1 49 = .ok (.iadd, 1) := by decide +kernel
theorem dX10_text_50 : decode t_X10_text.2.1 50 = .ok (.bipush 32, 2) := by decide +kernel
theorem dX10_text_52 : decode t_X10_text.2.1 52 = .ok (.bastore, 1) := by decide +kernel
theorem dX10_text_53 : decode t_X10_text.2.1 53 = .ok (.iinc 3 1, 3) := by decide +kernel
theorem dX10_text_56 : decode t_X10_text.2.1 56 = .ok (.goto (-22), 3) := by decide +kernel
theorem dX10_text_59 : decode t_X10_text.2.1 59 = .ok (.iload_n 2, 1) := by decide +kernel
theorem dX10_text_60 : decode t_X10_text.2.1 60 = .ok (.ireturn, 1) := by decide +kernel
theorem wd_1312 : Cond.code yX10_put cX10_put 5 (some .int) ∈ lw_gd := List.mem_filter.mpr ⟨List.mem_of_getElem? (i := 1312) (by decide +kernel), by decide +kernel⟩
theorem wd_1310 : Cond.instanceMethod yX10_put ∈ lw_gd := List.mem_filter.mpr ⟨List.mem_of_getElem? (i := 1310) (by decide +kernel), by decide +kernel⟩
theorem wd_1311 : Cond.selects RX10 yX10_put yX10_put ∈ lw_gd := List.mem_filter.mpr ⟨List.mem_of_getElem? (i := 1311) (by decide +kernel), by decide +kernel⟩
theorem vX10_put : wm_calV t_X10_put 3 := ⟨⟨wd_1312, wd_88, by decide +kernel, by decide +kernel, by decide +kernel⟩, wd_1310, wd_1311⟩
theorem dX10_put_0 : decode t_X10_put.2.1 0 = .ok (.iload_n 1, 1) := by decide +kernel
theorem dX10_put_1 : decode t_X10_put.2.1 1 = .ok (.invokestatic 122, 3) := by decide +kernel
theorem iX10_put_1 : wm_is t_X10_put t_X10_isText 1 := ⟨122, wd_1306, dX10_put_1⟩
theorem dX10_put_4 : decode t_X10_put.2.1 4 = .ok (.ifCond .ne 5, 3) := by decide +kernel
theorem dX10_put_7 : decode t_X10_put.2.1 7 = .ok (.iconst (-1), 1) := by decide +kernel
theorem dX10_put_8 : decode t_X10_put.2.1 8 = .ok (.ireturn, 1) := by decide +kernel
theorem dX10_put_9 : decode t_X10_put.2.1 9 = .ok (.aload_n 0, 1) := by decide +kernel
theorem dX10_put_10 : decode t_X10_put.2.1 10 = .ok (.getfield 22, 3) := by decide +kernel
theorem gX10_put_10 : wm_gf t_X10_put 10 10 8 := ⟨_, _, _, 22, rfl, by decide, wd_1122, dX10_put_10⟩
theorem dX10_put_13 : decode t_X10_put.2.1 13 = .ok (.iload_n 1, 1) := by decide +kernel
theorem dX10_put_14 : decode t_X10_put.2.1 14 = .ok (.iaload, 1) := by decide +kernel
theorem dX10_put_15 : decode t_X10_put.2.1 15 = .ok (.ifCond .ge 9, 3) := by decide +kernel
theorem dX10_put_18 : decode t_X10_put.2.1 18 = .ok (.aload_n 0, 1) := by decide +kernel
theorem dX10_put_19 : decode t_X10_put.2.1 19 = .ok (.iconst 1, 1) := by decide +kernel
theorem dX10_put_20 : decode t_X10_put.2.1 20 = .ok (.invokevirtual 111, 3) := by decide +kernel
theorem iX10_put_20 : wm_iv t_X10_put t_X10_meets 20 := ⟨111, wd_1270, dX10_put_20⟩
theorem dX10_put_23 : decode t_X10_put.2.1 23 = .ok (.ireturn, 1) := by decide +kernel
theorem dX10_put_24 : decode t_X10_put.2.1 24 = .ok (.iload_n 2, 1) := by decide +kernel
theorem dX10_put_25 : decode t_X10_put.2.1 25 = .ok (.iconst 0, 1) := by decide +kernel
theorem dX10_put_26 : decode t_X10_put.2.1 26 = .ok (.aload_n 0, 1) := by decide +kernel
theorem dX10_put_27 : decode t_X10_put.2.1 27 = .ok (.getfield 22, 3) := by decide +kernel
theorem gX10_put_27 : wm_gf t_X10_put 27 10 8 := ⟨_, _, _, 22, rfl, by decide, wd_1122, dX10_put_27⟩
theorem dX10_put_30 : decode t_X10_put.2.1 30 = .ok (.iload_n 1, 1) := by decide +kernel
theorem dX10_put_31 : decode t_X10_put.2.1 31 = .ok (.iaload, 1) := by decide +kernel
theorem dX10_put_32 : decode t_X10_put.2.1 32 = .ok (.iconst 1, 1) := by decide +kernel
theorem dX10_put_33 : decode t_X10_put.2.1 33 = .ok (.isub, 1) := by decide +kernel
theorem dX10_put_34 : decode t_X10_put.2.1 34 = .ok (.invokestatic 97, 3) := by decide +kernel
theorem iX10_put_34 : wm_is t_X10_put t_X10_in 34 := ⟨97, wd_1248, dX10_put_34⟩
theorem dX10_put_37 : decode t_X10_put.2.1 37 = .ok (.ifCond .ne 9, 3) := by decide +kernel
theorem dX10_put_40 : decode t_X10_put.2.1 40 = .ok (.aload_n 0, 1) := by decide +kernel
theorem dX10_put_41 : decode t_X10_put.2.1 41 = .ok (.iconst 2, 1) := by decide +kernel
theorem dX10_put_42 : decode t_X10_put.2.1 42 = .ok (.invokevirtual 111, 3) := by decide +kernel
theorem iX10_put_42 : wm_iv t_X10_put t_X10_meets 42 := ⟨111, wd_1270, dX10_put_42⟩
theorem dX10_put_45 : decode t_X10_put.2.1 45 = .ok (.ireturn, 1) := by decide +kernel
theorem dX10_put_46 : decode t_X10_put.2.1 46 = .ok (.aload_n 0, 1) := by decide +kernel
theorem dX10_put_47 : decode t_X10_put.2.1 47 = .ok (.getfield 25, 3) := by decide +kernel
theorem gX10_put_47 : wm_gf t_X10_put 47 10 9 := ⟨_, _, _, 25, rfl, by decide, wd_1123, dX10_put_47⟩
theorem dX10_put_50 : decode t_X10_put.2.1 50 = .ok (.bipush 80, 2) := by decide +kernel
theorem dX10_put_52 : decode t_X10_put.2.1 52 = .ok (.iload_n 1, 1) := by decide +kernel
theorem dX10_put_53 : decode t_X10_put.2.1 53 = .ok (.imul, 1) := by decide +kernel
theorem dX10_put_54 : decode t_X10_put.2.1 54 = .ok (.iload_n 2, 1) := by decide +kernel
theorem dX10_put_55 : decode t_X10_put.2.1 55 = .ok (.iadd, 1) := by decide +kernel
theorem dX10_put_56 : decode t_X10_put.2.1 56 = .ok (.baload, 1) := by decide +kernel
theorem dX10_put_57 : decode t_X10_put.2.1 57 = .ok (.istore 4, 2) := by decide +kernel
theorem dX10_put_59 : decode t_X10_put.2.1 59 = .ok (.aload_n 0, 1) := by decide +kernel
theorem dX10_put_60 : decode t_X10_put.2.1 60 = .ok (.getfield 25, 3) := by decide +kernel
theorem gX10_put_60 : wm_gf t_X10_put 60 10 9 := ⟨_, _, _, 25, rfl, by decide, wd_1123, dX10_put_60⟩
theorem dX10_put_63 : decode t_X10_put.2.1 63 = .ok (.bipush 80, 2) := by decide +kernel
theorem dX10_put_65 : decode t_X10_put.2.1 65 = .ok (.iload_n 1, 1) := by decide +kernel
theorem dX10_put_66 : decode t_X10_put.2.1 66 = .ok (.imul, 1) := by decide +kernel
theorem dX10_put_67 : decode t_X10_put.2.1 67 = .ok (.iload_n 2, 1) := by decide +kernel
theorem dX10_put_68 : decode t_X10_put.2.1 68 = .ok (.iadd, 1) := by decide +kernel
theorem dX10_put_69 : decode t_X10_put.2.1 69 = .ok (.iload_n 3, 1) := by decide +kernel
theorem dX10_put_70 : decode t_X10_put.2.1 70 = .ok (.i2b, 1) := by decide +kernel
theorem dX10_put_71 : decode t_X10_put.2.1 71 = .ok (.bastore, 1) := by decide +kernel
theorem dX10_put_72 : decode t_X10_put.2.1 72 = .ok (.sipush 1000, 3) := by decide +kernel
theorem dX10_put_75 : decode t_X10_put.2.1 75 = .ok (.iload 4, 2) := by decide +kernel
theorem dX10_put_77 : decode t_X10_put.2.1 77 = .ok (.iadd, 1) := by decide +kernel
theorem dX10_put_78 : decode t_X10_put.2.1 78 = .ok (.ireturn, 1) := by decide +kernel
theorem wd_1324 : Cond.code yX10_byteAt cX10_byteAt 3 (some .int) ∈ lw_gd := List.mem_filter.mpr ⟨List.mem_of_getElem? (i := 1324) (by decide +kernel), by decide +kernel⟩
theorem wd_1323 : Cond.instanceMethod yX10_byteAt ∈ lw_gd := List.mem_filter.mpr ⟨List.mem_of_getElem? (i := 1323) (by decide +kernel), by decide +kernel⟩
theorem wd_38 : Cond.selects RX10 yX10_byteAt yX10_byteAt ∈ lw_gd := List.mem_filter.mpr ⟨List.mem_of_getElem? (i := 38) (by decide +kernel), by decide +kernel⟩
theorem vX10_byteAt : wm_calV t_X10_byteAt 2 := ⟨⟨wd_1324, wd_88, by decide +kernel, by decide +kernel, by decide +kernel⟩, wd_1323, wd_38⟩
theorem dX10_byteAt_0 : decode t_X10_byteAt.2.1 0 = .ok (.iload_n 2, 1) := by decide +kernel
theorem dX10_byteAt_1 : decode t_X10_byteAt.2.1 1 = .ok (.aload_n 0, 1) := by decide +kernel
theorem dX10_byteAt_2 : decode t_X10_byteAt.2.1 2 = .ok (.getfield 22, 3) := by decide +kernel
theorem gX10_byteAt_2 : wm_gf t_X10_byteAt 2 10 8 := ⟨_, _, _, 22, rfl, by decide, wd_1122, dX10_byteAt_2⟩
theorem dX10_byteAt_5 : decode t_X10_byteAt.2.1 5 = .ok (.iload_n 1, 1) := by decide +kernel
theorem dX10_byteAt_6 : decode t_X10_byteAt.2.1 6 = .ok (.iaload, 1) := by decide +kernel
theorem dX10_byteAt_7 : decode t_X10_byteAt.2.1 7 = .ok (.if_icmp .ge 17, 3) := by decide +kernel
theorem dX10_byteAt_10 : decode t_X10_byteAt.2.1 10 = .ok (.aload_n 0, 1) := by decide +kernel
theorem dX10_byteAt_11 : decode t_X10_byteAt.2.1 11 = .ok (.getfield 25, 3) := by decide +kernel
theorem gX10_byteAt_11 : wm_gf t_X10_byteAt 11 10 9 := ⟨_, _, _, 25, rfl, by decide, wd_1123, dX10_byteAt_11⟩
theorem dX10_byteAt_14 : decode t_X10_byteAt.2.1 14 = .ok (.bipush 80, 2) := by decide +kernel
theorem dX10_byteAt_16 : decode t_X10_byteAt.2.1 16 = .ok (.iload_n 1, 1) := by decide +kernel
theorem dX10_byteAt_17 : decode t_X10_byteAt.2.1 17 = .ok (.imul, 1) := by decide +kernel
theorem dX10_byteAt_18 : decode t_X10_byteAt.2.1 18 = .ok (.iload_n 2, 1) := by decide +kernel
theorem dX10_byteAt_19 : decode t_X10_byteAt.2.1 19 = .ok (.iadd, 1) := by decide +kernel
theorem dX10_byteAt_20 : decode t_X10_byteAt.2.1 20 = .ok (.baload, 1) := by decide +kernel
theorem dX10_byteAt_21 : decode t_X10_byteAt.2.1 21 = .ok (.goto 4, 3) := by decide +kernel
theorem dX10_byteAt_24 : decode t_X10_byteAt.2.1 24 = .ok (.iconst 0, 1) := by decide +kernel
theorem dX10_byteAt_25 : decode t_X10_byteAt.2.1 25 = .ok (.ireturn, 1) := by decide +kernel
theorem wd_1332 : Cond.code yX10_sign cX10_sign 6 (some .boolean) ∈ lw_gd := List.mem_filter.mpr ⟨List.mem_of_getElem? (i := 1332) (by decide +kernel), by decide +kernel⟩
theorem wd_1331 : Cond.instanceMethod yX10_sign ∈ lw_gd := List.mem_filter.mpr ⟨List.mem_of_getElem? (i := 1331) (by decide +kernel), by decide +kernel⟩
theorem wd_40 : Cond.selects RX10 yX10_sign yX10_sign ∈ lw_gd := List.mem_filter.mpr ⟨List.mem_of_getElem? (i := 40) (by decide +kernel), by decide +kernel⟩
theorem vX10_sign : wm_calV t_X10_sign 3 := ⟨⟨wd_1332, wd_88, by decide +kernel, by decide +kernel, by decide +kernel⟩, wd_1331, wd_40⟩
theorem dX10_sign_0 : decode t_X10_sign.2.1 0 = .ok (.aload_n 0, 1) := by decide +kernel
theorem dX10_sign_1 : decode t_X10_sign.2.1 1 = .ok (.iload_n 1, 1) := by decide +kernel
theorem dX10_sign_2 : decode t_X10_sign.2.1 2 = .ok (.aload_n 0, 1) := by decide +kernel
theorem dX10_sign_3 : decode t_X10_sign.2.1 3 = .ok (.getfield 125, 3) := by decide +kernel
theorem wd_1133 : Cond.fieldLink RX10 125 "TurnedStonesModel" "readAt" "I" ∈ lw_gd := List.mem_filter.mpr ⟨List.mem_of_getElem? (i := 1133) (by decide +kernel), by decide +kernel⟩
theorem gX10_sign_3 : wm_gf t_X10_sign 3 10 19 := ⟨_, _, _, 125, rfl, by decide, wd_1133, dX10_sign_3⟩
theorem dX10_sign_6 : decode t_X10_sign.2.1 6 = .ok (.invokevirtual 128, 3) := by decide +kernel
theorem wd_1321 : Cond.methodLink RX10 128 yX10_byteAt ∈ lw_gd := List.mem_filter.mpr ⟨List.mem_of_getElem? (i := 1321) (by decide +kernel), by decide +kernel⟩
theorem iX10_sign_6 : wm_iv t_X10_sign t_X10_byteAt 6 := ⟨128, wd_1321, dX10_sign_6⟩
theorem dX10_sign_9 : decode t_X10_sign.2.1 9 = .ok (.istore 4, 2) := by decide +kernel
theorem dX10_sign_11 : decode t_X10_sign.2.1 11 = .ok (.iload 4, 2) := by decide +kernel
theorem dX10_sign_13 : decode t_X10_sign.2.1 13 = .ok (.iload_n 2, 1) := by decide +kernel
theorem dX10_sign_14 : decode t_X10_sign.2.1 14 = .ok (.iload_n 3, 1) := by decide +kernel
theorem dX10_sign_15 : decode t_X10_sign.2.1 15 = .ok (.invokestatic 97, 3) := by decide +kernel
theorem iX10_sign_15 : wm_is t_X10_sign t_X10_in 15 := ⟨97, wd_1248, dX10_sign_15⟩
theorem dX10_sign_18 : decode t_X10_sign.2.1 18 = .ok (.istore 5, 2) := by decide +kernel
theorem dX10_sign_20 : decode t_X10_sign.2.1 20 = .ok (.aload_n 0, 1) := by decide +kernel
theorem dX10_sign_21 : decode t_X10_sign.2.1 21 = .ok (.iload 4, 2) := by decide +kernel
theorem dX10_sign_23 : decode t_X10_sign.2.1 23 = .ok (.iload_n 2, 1) := by decide +kernel
theorem dX10_sign_24 : decode t_X10_sign.2.1 24 = .ok (.isub, 1) := by decide +kernel
theorem dX10_sign_25 : decode t_X10_sign.2.1 25 = .ok (.putfield 131, 3) := by decide +kernel
theorem wd_1134 : Cond.fieldLink RX10 131 "TurnedStonesModel" "readNumber" "I" ∈ lw_gd := List.mem_filter.mpr ⟨List.mem_of_getElem? (i := 1134) (by decide +kernel), by decide +kernel⟩
theorem gX10_sign_25 : wm_pf t_X10_sign 25 10 20 .int := ⟨_, _, _, 131, rfl, by decide, wd_1134, dX10_sign_25, rfl, by decide +kernel⟩
theorem dX10_sign_28 : decode t_X10_sign.2.1 28 = .ok (.aload_n 0, 1) := by decide +kernel
theorem dX10_sign_29 : decode t_X10_sign.2.1 29 = .ok (.dup, 1) := by decide +kernel
theorem dX10_sign_30 : decode t_X10_sign.2.1 30 = .ok (.getfield 125, 3) := by decide +kernel
theorem gX10_sign_30 : wm_gf t_X10_sign 30 10 19 := ⟨_, _, _, 125, rfl, by decide, wd_1133, dX10_sign_30⟩
theorem dX10_sign_33 : decode t_X10_sign.2.1 33 = .ok (.iload 5, 2) := by decide +kernel
theorem dX10_sign_35 : decode t_X10_sign.2.1 35 = .ok (.ifCond .eq 7, 3) := by decide +kernel
theorem dX10_sign_38 : decode t_X10_sign.2.1 38 = .ok (.iconst 1, 1) := by decide +kernel
theorem dX10_sign_39 : decode t_X10_sign.2.1 39 = .ok (.goto 4, 3) := by decide +kernel
theorem dX10_sign_42 : decode t_X10_sign.2.1 42 = .ok (.iconst 0, 1) := by decide +kernel
theorem dX10_sign_43 : decode t_X10_sign.2.1 43 = .ok (.iadd, 1) := by decide +kernel
theorem dX10_sign_44 : decode t_X10_sign.2.1 44 = .ok (.putfield 125, 3) := by decide +kernel
theorem gX10_sign_44 : wm_pf t_X10_sign 44 10 19 .int := ⟨_, _, _, 125, rfl, by decide, wd_1133, dX10_sign_44, rfl, by decide +kernel⟩
theorem dX10_sign_47 : decode t_X10_sign.2.1 47 = .ok (.iload 5, 2) := by decide +kernel
theorem dX10_sign_49 : decode t_X10_sign.2.1 49 = .ok (.ireturn, 1) := by decide +kernel
