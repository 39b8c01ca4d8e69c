theorem wd_408 : Cond.code yX6_note cX6_note 2 (none) ∈ lw_gd := List.mem_filter.mpr ⟨List.mem_of_getElem? (i := 408) (by decide +kernel), by decide +kernel⟩
theorem wd_87 : Cond.initialized RX6 ∈ lw_gd := List.mem_filter.mpr ⟨List.mem_of_getElem? (i := 87) (by decide +kernel), by decide +kernel⟩
theorem wd_406 : Cond.instanceMethod yX6_note ∈ lw_gd := List.mem_filter.mpr ⟨List.mem_of_getElem? (i := 406) (by decide +kernel), by decide +kernel⟩
theorem wd_407 : Cond.selects RX6 yX6_note yX6_note ∈ lw_gd := List.mem_filter.mpr ⟨List.mem_of_getElem? (i := 407) (by decide +kernel), by decide +kernel⟩
theorem vX6_note : wm_calV t_X6_note 1 := ⟨⟨wd_408, wd_87, by decide +kernel, by decide +kernel, by decide +kernel⟩, wd_406, wd_407⟩
theorem dX6_note_0 : decode t_X6_note.2.1 0 = .ok (.iload_n 1, 1) := by decide +kernel
theorem dX6_note_1 : decode t_X6_note.2.1 1 = .ok (.iconst 1, 1) := by decide +kernel
theorem dX6_note_2 : decode t_X6_note.2.1 2 = .ok (.if_icmp .lt 8, 3) := by decide +kernel
theorem dX6_note_5 : decode t_X6_note.2.1 5 = .ok (.iload_n 1, 1) := by decide +kernel
theorem dX6_note_6 : decode t_X6_note.2.1 6 = .ok (.iconst 5, 1) := by decide +kernel
theorem dX6_note_7 : decode t_X6_note.2.1 7 = .ok (.if_icmp .le 4, 3) := by decide +kernel
theorem dX6_note_10 : decode t_X6_note.2.1 10 = .ok (.return_, 1) := by decide +kernel
theorem dX6_note_11 : decode t_X6_note.2.1 11 = .ok (.aload_n 0, 1) := by decide +kernel
theorem dX6_note_12 : decode t_X6_note.2.1 12 = .ok (.iload_n 1, 1) := by decide +kernel
theorem dX6_note_13 : decode t_X6_note.2.1 13 = .ok (.putfield 22, 3) := by decide +kernel
theorem wd_330 : Cond.fieldLink RX6 22 "TurnedStones$Told" "latest" "I" ∈ lw_gd := List.mem_filter.mpr ⟨List.mem_of_getElem? (i := 330) (by decide +kernel), by decide +kernel⟩
theorem gX6_note_13 : wm_pf t_X6_note 13 6 3 .int := ⟨_, _, _, 22, rfl, by decide, wd_330, dX6_note_13, rfl, by decide +kernel⟩
theorem dX6_note_16 : decode t_X6_note.2.1 16 = .ok (.aload_n 0, 1) := by decide +kernel
theorem dX6_note_17 : decode t_X6_note.2.1 17 = .ok (.getfield 25, 3) := by decide +kernel
theorem wd_332 : Cond.fieldLink RX6 25 "TurnedStones$Told" "found" "[I" ∈ lw_gd := List.mem_filter.mpr ⟨List.mem_of_getElem? (i := 332) (by decide +kernel), by decide +kernel⟩
theorem gX6_note_17 : wm_gf t_X6_note 17 6 4 := ⟨_, _, _, 25, rfl, by decide, wd_332, dX6_note_17⟩
theorem dX6_note_20 : decode t_X6_note.2.1 20 = .ok (.iload_n 1, 1) := by decide +kernel
theorem dX6_note_21 : decode t_X6_note.2.1 21 = .ok (.dup2, 1) := by decide +kernel
theorem dX6_note_22 : decode t_X6_note.2.1 22 = .ok (.iaload, 1) := by decide +kernel
theorem dX6_note_23 : decode t_X6_note.2.1 23 = .ok (.iconst 1, 1) := by decide +kernel
theorem dX6_note_24 : decode t_X6_note.2.1 24 = .ok (.iadd, 1) := by decide +kernel
theorem dX6_note_25 : decode t_X6_note.2.1 25 = .ok (.iastore, 1) := by decide +kernel
theorem dX6_note_26 : decode t_X6_note.2.1 26 = .ok (.return_, 1) := by decide +kernel
theorem wd_869 : Cond.code yX6_fraction cX6_fraction 7 (none) ∈ lw_gd := List.mem_filter.mpr ⟨List.mem_of_getElem? (i := 869) (by decide +kernel), by decide +kernel⟩
theorem wd_867 : Cond.instanceMethod yX6_fraction ∈ lw_gd := List.mem_filter.mpr ⟨List.mem_of_getElem? (i := 867) (by decide +kernel), by decide +kernel⟩
theorem wd_868 : Cond.selects RX6 yX6_fraction yX6_fraction ∈ lw_gd := List.mem_filter.mpr ⟨List.mem_of_getElem? (i := 868) (by decide +kernel), by decide +kernel⟩
theorem vX6_fraction : wm_calV t_X6_fraction 2 := ⟨⟨wd_869, wd_87, by decide +kernel, by decide +kernel, by decide +kernel⟩, wd_867, wd_868⟩
theorem dX6_fraction_0 : decode t_X6_fraction.2.1 0 = .ok (.lload_n 1, 1) := by decide +kernel
theorem dX6_fraction_1 : decode t_X6_fraction.2.1 1 = .ok (.lload_n 3, 1) := by decide +kernel
theorem dX6_fraction_2 : decode t_X6_fraction.2.1 2 = .ok (.invokestatic 29, 3) := by decide +kernel
theorem wd_870 : Cond.methodLink RX6 29 yX6_greatestDivisor ∈ lw_gd := List.mem_filter.mpr ⟨List.mem_of_getElem? (i := 870) (by decide +kernel), by decide +kernel⟩
theorem iX6_fraction_2 : wm_is t_X6_fraction t_X6_greatestDivisor 2 := ⟨29, wd_870, dX6_fraction_2⟩
theorem dX6_fraction_5 : decode t_X6_fraction.2.1 5 = .ok (.lstore 5, 2) := by decide +kernel
theorem dX6_fraction_7 : decode t_X6_fraction.2.1 7 = .ok (.lload 5, 2) := by decide +kernel
theorem dX6_fraction_9 : decode t_X6_fraction.2.1 9 = .ok (.lconst 0, 1) := by decide +kernel
theorem dX6_fraction_10 : decode t_X6_fraction.2.1 10 = .ok (.lcmp, 1) := by decide +kernel
theorem dX6_fraction_11 : decode t_X6_fraction.2.1 11 = .ok (.ifCond .gt 4, 3) := by decide +kernel
theorem dX6_fraction_14 : decode t_X6_fraction.2.1 14 = .ok (.return_, 1) := by decide +kernel
theorem dX6_fraction_15 : decode t_X6_fraction.2.1 15 = .ok (.aload_n 0, 1) := by decide +kernel
theorem dX6_fraction_16 : decode t_X6_fraction.2.1 16 = .ok (.lload_n 1, 1) := by decide +kernel
theorem dX6_fraction_17 : decode t_X6_fraction.2.1 17 = .ok (.lload 5, 2) := by decide +kernel
theorem dX6_fraction_19 : decode t_X6_fraction.2.1 19 = .ok (.ldiv, 1) := by decide +kernel
theorem dX6_fraction_20 : decode t_X6_fraction.2.1 20 = .ok (.putfield 15, 3) := by decide +kernel
theorem wd_326 : Cond.fieldLink RX6 15 "TurnedStones$Told" "top" "J" ∈ lw_gd := List.mem_filter.mpr ⟨List.mem_of_getElem? (i := 326) (by decide +kernel), by decide +kernel⟩
theorem gX6_fraction_20 : wm_pf t_X6_fraction 20 6 1 .long := ⟨_, _, _, 15, rfl, by decide, wd_326, dX6_fraction_20, rfl, by decide +kernel⟩
theorem dX6_fraction_23 : decode t_X6_fraction.2.1 23 = .ok (.aload_n 0, 1) := by decide +kernel
theorem dX6_fraction_24 : decode t_X6_fraction.2.1 24 = .ok (.lload_n 3, 1) := by decide +kernel
theorem dX6_fraction_25 : decode t_X6_fraction.2.1 25 = .ok (.lload 5, 2) := by decide +kernel
theorem dX6_fraction_27 : decode t_X6_fraction.2.1 27 = .ok (.ldiv, 1) := by decide +kernel
theorem dX6_fraction_28 : decode t_X6_fraction.2.1 28 = .ok (.putfield 19, 3) := by decide +kernel
theorem wd_328 : Cond.fieldLink RX6 19 "TurnedStones$Told" "bottom" "J" ∈ lw_gd := List.mem_filter.mpr ⟨List.mem_of_getElem? (i := 328) (by decide +kernel), by decide +kernel⟩
theorem gX6_fraction_28 : wm_pf t_X6_fraction 28 6 2 .long := ⟨_, _, _, 19, rfl, by decide, wd_328, dX6_fraction_28, rfl, by decide +kernel⟩
theorem dX6_fraction_31 : decode t_X6_fraction.2.1 31 = .ok (.return_, 1) := by decide +kernel
theorem wd_872 : Cond.code yX6_greatestDivisor cX6_greatestDivisor 11 (some .long) ∈ lw_gd := List.mem_filter.mpr ⟨List.mem_of_getElem? (i := 872) (by decide +kernel), by decide +kernel⟩
theorem wd_871 : Cond.static yX6_greatestDivisor ∈ lw_gd := List.mem_filter.mpr ⟨List.mem_of_getElem? (i := 871) (by decide +kernel), by decide +kernel⟩
theorem vX6_greatestDivisor : wm_calS t_X6_greatestDivisor 2 := ⟨⟨wd_872, wd_87, by decide +kernel, by decide +kernel, by decide +kernel⟩, wd_871⟩
theorem dX6_greatestDivisor_0 : decode t_X6_greatestDivisor.2.1 0 = .ok (.lload_n 0, 1) := by decide +kernel
theorem dX6_greatestDivisor_1 : decode t_X6_greatestDivisor.2.1 1 = .ok (.lstore 4, 2) := by decide +kernel
theorem dX6_greatestDivisor_3 : decode t_X6_greatestDivisor.2.1 3 = .ok (.lload_n 2, 1) := by decide +kernel
theorem dX6_greatestDivisor_4 : decode t_X6_greatestDivisor.2.1 4 = .ok (.lstore 6, 2) := by decide +kernel
theorem dX6_greatestDivisor_6 : decode t_X6_greatestDivisor.2.1 6 = .ok (.iconst 0, 1) := by decide +kernel
theorem dX6_greatestDivisor_7 : decode t_X6_greatestDivisor.2.1 7 = .ok (.istore 8, 2) := by decide +kernel
theorem dX6_greatestDivisor_9 : decode t_X6_greatestDivisor.2.1 9 = .ok (.iload 8, 2) := by decide +kernel
theorem dX6_greatestDivisor_11 : decode t_X6_greatestDivisor.2.1 11 = .ok (.sipush 200, 3) := by decide +kernel
theorem dX6_greatestDivisor_14 : decode t_X6_greatestDivisor.2.1 14 = .ok (.if_icmp .ge 31, 3) := by decide +kernel
theorem dX6_greatestDivisor_17 : decode t_X6_greatestDivisor.2.1 17 = .ok (.lload 6, 2) := by decide +kernel
theorem dX6_greatestDivisor_19 : decode t_X6_greatestDivisor.2.1 19 = .ok (.lconst 0, 1) := by decide +kernel
theorem dX6_greatestDivisor_20 : decode t_X6_greatestDivisor.2.1 20 = .ok (.lcmp, 1) := by decide +kernel
theorem dX6_greatestDivisor_21 : decode t_X6_greatestDivisor.2.1 21 = .ok (.ifCond .eq 24, 3) := by decide +kernel
theorem dX6_greatestDivisor_24 : decode t_X6_greatestDivisor.2.1 24 = .ok (.lload 4, 2) := by decide +kernel
theorem dX6_greatestDivisor_26 : decode t_X6_greatestDivisor.2.1 26 = .ok (.lload 6, 2) := by decide +kernel
theorem dX6_greatestDivisor_28 : decode t_X6_greatestDivisor.2.1 28 = .ok (.lrem, 1) := by decide +kernel
theorem dX6_greatestDivisor_29 : decode t_X6_greatestDivisor.2.1 29 = .ok (.lstore 9, 2) := by decide +kernel
theorem dX6_greatestDivisor_31 : decode t_X6_greatestDivisor.2.1 31 = .ok (.lload 6, 2) := by decide +kernel
theorem dX6_greatestDivisor_33 : decode t_X6_greatestDivisor.2.1 33 = .ok (.lstore 4, 2) := by decide +kernel
theorem dX6_greatestDivisor_35 : decode t_X6_greatestDivisor.2.1 35 = .ok (.lload 9, 2) := by decide +kernel
theorem dX6_greatestDivisor_37 : decode t_X6_greatestDivisor.2.1 37 = .ok (.lstore 6, 2) := by decide +kernel
theorem dX6_greatestDivisor_39 : decode t_X6_greatestDivisor.2.1 39 = .ok (.iinc 8 1, 3) := by decide +kernel
theorem dX6_greatestDivisor_42 : decode t_X6_greatestDivisor.2.1 42 = .ok (.goto (-33), 3) := by decide +kernel
theorem dX6_greatestDivisor_45 : decode t_X6_greatestDivisor.2.1 45 = .ok (.lload 4, 2) := by decide +kernel
theorem dX6_greatestDivisor_47 : decode t_X6_greatestDivisor.2.1 47 = .ok (.lreturn, 1) := by decide +kernel
