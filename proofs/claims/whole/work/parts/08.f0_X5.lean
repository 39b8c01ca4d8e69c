theorem wd_400 : Cond.code yX5_knows cX5_knows 2 (some .boolean) ∈ lw_gd := List.mem_filter.mpr ⟨List.mem_of_getElem? (i := 400) (by decide +kernel), by decide +kernel⟩
theorem wd_78 : Cond.initialized RX5 ∈ lw_gd := List.mem_filter.mpr ⟨List.mem_of_getElem? (i := 78) (by decide +kernel), by decide +kernel⟩
theorem wd_398 : Cond.instanceMethod yX5_knows ∈ lw_gd := List.mem_filter.mpr ⟨List.mem_of_getElem? (i := 398) (by decide +kernel), by decide +kernel⟩
theorem wd_399 : Cond.selects RX5 yX5_knows yX5_knows ∈ lw_gd := List.mem_filter.mpr ⟨List.mem_of_getElem? (i := 399) (by decide +kernel), by decide +kernel⟩
theorem vX5_knows : wm_calV t_X5_knows 1 := ⟨⟨wd_400, wd_78, by decide +kernel, by decide +kernel, by decide +kernel⟩, wd_398, wd_399⟩
theorem dX5_knows_0 : decode t_X5_knows.2.1 0 = .ok (.iload_n 1, 1) := by decide +kernel
theorem dX5_knows_1 : decode t_X5_knows.2.1 1 = .ok (.ifCond .lt 16, 3) := by decide +kernel
theorem dX5_knows_4 : decode t_X5_knows.2.1 4 = .ok (.iload_n 1, 1) := by decide +kernel
theorem dX5_knows_5 : decode t_X5_knows.2.1 5 = .ok (.aload_n 0, 1) := by decide +kernel
theorem dX5_knows_6 : decode t_X5_knows.2.1 6 = .ok (.getfield 20, 3) := by decide +kernel
theorem wd_115 : Cond.fieldLink RX5 20 "TurnedStones$Table" "sizes" "[I" ∈ lw_gd := List.mem_filter.mpr ⟨List.mem_of_getElem? (i := 115) (by decide +kernel), by decide +kernel⟩
theorem gX5_knows_6 : wm_gf t_X5_knows 6 5 2 := ⟨_, _, _, 20, rfl, by decide, wd_115, dX5_knows_6⟩
theorem dX5_knows_9 : decode t_X5_knows.2.1 9 = .ok (.arraylength, 1) := by decide +kernel
theorem dX5_knows_10 : decode t_X5_knows.2.1 10 = .ok (.if_icmp .ge 7, 3) := by decide +kernel
theorem dX5_knows_13 : decode t_X5_knows.2.1 13 = .ok (.iconst 1, 1) := by decide +kernel
theorem dX5_knows_14 : decode t_X5_knows.2.1 14 = .ok (.goto 4, 3) := by decide +kernel
theorem dX5_knows_17 : decode t_X5_knows.2.1 17 = .ok (.iconst 0, 1) := by decide +kernel
theorem dX5_knows_18 : decode t_X5_knows.2.1 18 = .ok (.ireturn, 1) := by decide +kernel
theorem wd_435 : Cond.code yX5_has cX5_has 2 (some .boolean) ∈ lw_gd := List.mem_filter.mpr ⟨List.mem_of_getElem? (i := 435) (by decide +kernel), by decide +kernel⟩
theorem wd_433 : Cond.instanceMethod yX5_has ∈ lw_gd := List.mem_filter.mpr ⟨List.mem_of_getElem? (i := 433) (by decide +kernel), by decide +kernel⟩
theorem wd_434 : Cond.selects RX5 yX5_has yX5_has ∈ lw_gd := List.mem_filter.mpr ⟨List.mem_of_getElem? (i := 434) (by decide +kernel), by decide +kernel⟩
theorem vX5_has : wm_calV t_X5_has 1 := ⟨⟨wd_435, wd_78, by decide +kernel, by decide +kernel, by decide +kernel⟩, wd_433, wd_434⟩
theorem dX5_has_0 : decode t_X5_has.2.1 0 = .ok (.aload_n 0, 1) := by decide +kernel
theorem dX5_has_1 : decode t_X5_has.2.1 1 = .ok (.iload_n 1, 1) := by decide +kernel
theorem dX5_has_2 : decode t_X5_has.2.1 2 = .ok (.invokevirtual 30, 3) := by decide +kernel
theorem wd_413 : Cond.methodLink RX5 30 yX5_knows ∈ lw_gd := List.mem_filter.mpr ⟨List.mem_of_getElem? (i := 413) (by decide +kernel), by decide +kernel⟩
theorem iX5_has_2 : wm_iv t_X5_has t_X5_knows 2 := ⟨30, wd_413, dX5_has_2⟩
theorem dX5_has_5 : decode t_X5_has.2.1 5 = .ok (.ifCond .eq 17, 3) := by decide +kernel
theorem dX5_has_8 : decode t_X5_has.2.1 8 = .ok (.aload_n 0, 1) := by decide +kernel
theorem dX5_has_9 : decode t_X5_has.2.1 9 = .ok (.getfield 20, 3) := by decide +kernel
theorem gX5_has_9 : wm_gf t_X5_has 9 5 2 := ⟨_, _, _, 20, rfl, by decide, wd_115, dX5_has_9⟩
theorem dX5_has_12 : decode t_X5_has.2.1 12 = .ok (.iload_n 1, 1) := by decide +kernel
theorem dX5_has_13 : decode t_X5_has.2.1 13 = .ok (.iaload, 1) := by decide +kernel
theorem dX5_has_14 : decode t_X5_has.2.1 14 = .ok (.iconst (-1), 1) := by decide +kernel
theorem dX5_has_15 : decode t_X5_has.2.1 15 = .ok (.if_icmp .eq 7, 3) := by decide +kernel
theorem dX5_has_18 : decode t_X5_has.2.1 18 = .ok (.iconst 1, 1) := by decide +kernel
theorem dX5_has_19 : decode t_X5_has.2.1 19 = .ok (.goto 4, 3) := by decide +kernel
theorem dX5_has_22 : decode t_X5_has.2.1 22 = .ok (.iconst 0, 1) := by decide +kernel
theorem dX5_has_23 : decode t_X5_has.2.1 23 = .ok (.ireturn, 1) := by decide +kernel
theorem wd_479 : Cond.code yX5_size cX5_size 2 (some .int) ∈ lw_gd := List.mem_filter.mpr ⟨List.mem_of_getElem? (i := 479) (by decide +kernel), by decide +kernel⟩
theorem wd_477 : Cond.instanceMethod yX5_size ∈ lw_gd := List.mem_filter.mpr ⟨List.mem_of_getElem? (i := 477) (by decide +kernel), by decide +kernel⟩
theorem wd_478 : Cond.selects RX5 yX5_size yX5_size ∈ lw_gd := List.mem_filter.mpr ⟨List.mem_of_getElem? (i := 478) (by decide +kernel), by decide +kernel⟩
theorem vX5_size : wm_calV t_X5_size 1 := ⟨⟨wd_479, wd_78, by decide +kernel, by decide +kernel, by decide +kernel⟩, wd_477, wd_478⟩
theorem dX5_size_0 : decode t_X5_size.2.1 0 = .ok (.aload_n 0, 1) := by decide +kernel
theorem dX5_size_1 : decode t_X5_size.2.1 1 = .ok (.iload_n 1, 1) := by decide +kernel
theorem dX5_size_2 : decode t_X5_size.2.1 2 = .ok (.invokevirtual 30, 3) := by decide +kernel
theorem iX5_size_2 : wm_iv t_X5_size t_X5_knows 2 := ⟨30, wd_413, dX5_size_2⟩
theorem dX5_size_5 : decode t_X5_size.2.1 5 = .ok (.ifCond .eq 16, 3) := by decide +kernel
theorem dX5_size_8 : decode t_X5_size.2.1 8 = .ok (.aload_n 0, 1) := by decide +kernel
theorem dX5_size_9 : decode t_X5_size.2.1 9 = .ok (.getfield 20, 3) := by decide +kernel
theorem gX5_size_9 : wm_gf t_X5_size 9 5 2 := ⟨_, _, _, 20, rfl, by decide, wd_115, dX5_size_9⟩
theorem dX5_size_12 : decode t_X5_size.2.1 12 = .ok (.iload_n 1, 1) := by decide +kernel
theorem dX5_size_13 : decode t_X5_size.2.1 13 = .ok (.iaload, 1) := by decide +kernel
theorem dX5_size_14 : decode t_X5_size.2.1 14 = .ok (.iconst 0, 1) := by decide +kernel
theorem dX5_size_15 : decode t_X5_size.2.1 15 = .ok (.invokestatic 34, 3) := by decide +kernel
theorem wd_480 : Cond.methodLink RX5 34 Lib.Math.max.name ∈ lw_gd := List.mem_filter.mpr ⟨List.mem_of_getElem? (i := 480) (by decide +kernel), by decide +kernel⟩
theorem iX5_size_15 : wm_ij t_X5_size Lib.Math.max.name 15 := ⟨34, wd_480, dX5_size_15⟩
theorem dX5_size_18 : decode t_X5_size.2.1 18 = .ok (.goto 4, 3) := by decide +kernel
theorem dX5_size_21 : decode t_X5_size.2.1 21 = .ok (.iconst 0, 1) := by decide +kernel
theorem dX5_size_22 : decode t_X5_size.2.1 22 = .ok (.ireturn, 1) := by decide +kernel
theorem wd_439 : Cond.code yX5_holds cX5_holds 4 (some .boolean) ∈ lw_gd := List.mem_filter.mpr ⟨List.mem_of_getElem? (i := 439) (by decide +kernel), by decide +kernel⟩
theorem wd_437 : Cond.instanceMethod yX5_holds ∈ lw_gd := List.mem_filter.mpr ⟨List.mem_of_getElem? (i := 437) (by decide +kernel), by decide +kernel⟩
theorem wd_438 : Cond.selects RX5 yX5_holds yX5_holds ∈ lw_gd := List.mem_filter.mpr ⟨List.mem_of_getElem? (i := 438) (by decide +kernel), by decide +kernel⟩
theorem vX5_holds : wm_calV t_X5_holds 3 := ⟨⟨wd_439, wd_78, by decide +kernel, by decide +kernel, by decide +kernel⟩, wd_437, wd_438⟩
theorem dX5_holds_0 : decode t_X5_holds.2.1 0 = .ok (.aload_n 0, 1) := by decide +kernel
theorem dX5_holds_1 : decode t_X5_holds.2.1 1 = .ok (.iload_n 1, 1) := by decide +kernel
theorem dX5_holds_2 : decode t_X5_holds.2.1 2 = .ok (.invokevirtual 30, 3) := by decide +kernel
theorem iX5_holds_2 : wm_iv t_X5_holds t_X5_knows 2 := ⟨30, wd_413, dX5_holds_2⟩
theorem dX5_holds_5 : decode t_X5_holds.2.1 5 = .ok (.ifCond .eq 23, 3) := by decide +kernel
theorem dX5_holds_8 : decode t_X5_holds.2.1 8 = .ok (.iload_n 2, 1) := by decide +kernel
theorem dX5_holds_9 : decode t_X5_holds.2.1 9 = .ok (.ifCond .lt 19, 3) := by decide +kernel
theorem dX5_holds_12 : decode t_X5_holds.2.1 12 = .ok (.iload_n 3, 1) := by decide +kernel
theorem dX5_holds_13 : decode t_X5_holds.2.1 13 = .ok (.aload_n 0, 1) := by decide +kernel
theorem dX5_holds_14 : decode t_X5_holds.2.1 14 = .ok (.getfield 20, 3) := by decide +kernel
theorem gX5_holds_14 : wm_gf t_X5_holds 14 5 2 := ⟨_, _, _, 20, rfl, by decide, wd_115, dX5_holds_14⟩
theorem dX5_holds_17 : decode t_X5_holds.2.1 17 = .ok (.iload_n 1, 1) := by decide +kernel
theorem dX5_holds_18 : decode t_X5_holds.2.1 18 = .ok (.iaload, 1) := by decide +kernel
theorem dX5_holds_19 : decode t_X5_holds.2.1 19 = .ok (.iload_n 2, 1) := by decide +kernel
theorem dX5_holds_20 : decode t_X5_holds.2.1 20 = .ok (.isub, 1) := by decide +kernel
theorem dX5_holds_21 : decode t_X5_holds.2.1 21 = .ok (.if_icmp .gt 7, 3) := by decide +kernel
theorem dX5_holds_24 : decode t_X5_holds.2.1 24 = .ok (.iconst 1, 1) := by decide +kernel
theorem dX5_holds_25 : decode t_X5_holds.2.1 25 = .ok (.goto 4, 3) := by decide +kernel
theorem dX5_holds_28 : decode t_X5_holds.2.1 28 = .ok (.iconst 0, 1) := by decide +kernel
theorem dX5_holds_29 : decode t_X5_holds.2.1 29 = .ok (.ireturn, 1) := by decide +kernel
theorem wd_443 : Cond.code yX5_get cX5_get 3 (some .int) ∈ lw_gd := List.mem_filter.mpr ⟨List.mem_of_getElem? (i := 443) (by decide +kernel), by decide +kernel⟩
theorem wd_441 : Cond.instanceMethod yX5_get ∈ lw_gd := List.mem_filter.mpr ⟨List.mem_of_getElem? (i := 441) (by decide +kernel), by decide +kernel⟩
theorem wd_442 : Cond.selects RX5 yX5_get yX5_get ∈ lw_gd := List.mem_filter.mpr ⟨List.mem_of_getElem? (i := 442) (by decide +kernel), by decide +kernel⟩
theorem vX5_get : wm_calV t_X5_get 2 := ⟨⟨wd_443, wd_78, by decide +kernel, by decide +kernel, by decide +kernel⟩, wd_441, wd_442⟩
theorem dX5_get_0 : decode t_X5_get.2.1 0 = .ok (.aload_n 0, 1) := by decide +kernel
theorem dX5_get_1 : decode t_X5_get.2.1 1 = .ok (.iload_n 1, 1) := by decide +kernel
theorem dX5_get_2 : decode t_X5_get.2.1 2 = .ok (.invokevirtual 30, 3) := by decide +kernel
theorem iX5_get_2 : wm_iv t_X5_get t_X5_knows 2 := ⟨30, wd_413, dX5_get_2⟩
theorem dX5_get_5 : decode t_X5_get.2.1 5 = .ok (.ifCond .eq 28, 3) := by decide +kernel
theorem dX5_get_8 : decode t_X5_get.2.1 8 = .ok (.iload_n 2, 1) := by decide +kernel
theorem dX5_get_9 : decode t_X5_get.2.1 9 = .ok (.ifCond .lt 24, 3) := by decide +kernel
theorem dX5_get_12 : decode t_X5_get.2.1 12 = .ok (.iload_n 2, 1) := by decide +kernel
theorem dX5_get_13 : decode t_X5_get.2.1 13 = .ok (.aload_n 0, 1) := by decide +kernel
theorem dX5_get_14 : decode t_X5_get.2.1 14 = .ok (.getfield 20, 3) := by decide +kernel
theorem gX5_get_14 : wm_gf t_X5_get 14 5 2 := ⟨_, _, _, 20, rfl, by decide, wd_115, dX5_get_14⟩
theorem dX5_get_17 : decode t_X5_get.2.1 17 = .ok (.iload_n 1, 1) := by decide +kernel
theorem dX5_get_18 : decode t_X5_get.2.1 18 = .ok (.iaload, 1) := by decide +kernel
theorem dX5_get_19 : decode t_X5_get.2.1 19 = .ok (.if_icmp .ge 14, 3) := by decide +kernel
theorem dX5_get_22 : decode t_X5_get.2.1 22 = .ok (.aload_n 0, 1) := by decide +kernel
theorem dX5_get_23 : decode t_X5_get.2.1 23 = .ok (.getfield 17, 3) := by decide +kernel
theorem wd_114 : Cond.fieldLink RX5 17 "TurnedStones$Table" "places" "[[I" ∈ lw_gd := List.mem_filter.mpr ⟨List.mem_of_getElem? (i := 114) (by decide +kernel), by decide +kernel⟩
theorem gX5_get_23 : wm_gf t_X5_get 23 5 1 := ⟨_, _, _, 17, rfl, by decide, wd_114, dX5_get_23⟩
theorem dX5_get_26 : decode t_X5_get.2.1 26 = .ok (.iload_n 1, 1) := by decide +kernel
theorem dX5_get_27 : decode t_X5_get.2.1 27 = .ok (.aaload, 1) := by decide +kernel
theorem dX5_get_28 : decode t_X5_get.2.1 28 = .ok (.iload_n 2, 1) := by decide +kernel
theorem dX5_get_29 : decode t_X5_get.2.1 29 = .ok (.iaload, 1) := by decide +kernel
theorem dX5_get_30 : decode t_X5_get.2.1 30 = .ok (.goto 4, 3) := by decide +kernel
theorem dX5_get_33 : decode t_X5_get.2.1 33 = .ok (.iconst 0, 1) := by decide +kernel
theorem dX5_get_34 : decode t_X5_get.2.1 34 = .ok (.ireturn, 1) := by decide +kernel
theorem wd_447 : Cond.code yX5_set cX5_set 4 (none) ∈ lw_gd := List.mem_filter.mpr ⟨List.mem_of_getElem? (i := 447) (by decide +kernel), by decide +kernel⟩
theorem wd_445 : Cond.instanceMethod yX5_set ∈ lw_gd := List.mem_filter.mpr ⟨List.mem_of_getElem? (i := 445) (by decide +kernel), by decide +kernel⟩
theorem wd_446 : Cond.selects RX5 yX5_set yX5_set ∈ lw_gd := List.mem_filter.mpr ⟨List.mem_of_getElem? (i := 446) (by decide +kernel), by decide +kernel⟩
theorem vX5_set : wm_calV t_X5_set 3 := ⟨⟨wd_447, wd_78, by decide +kernel, by decide +kernel, by decide +kernel⟩, wd_445, wd_446⟩
theorem dX5_set_0 : decode t_X5_set.2.1 0 = .ok (.aload_n 0, 1) := by decide +kernel
theorem dX5_set_1 : decode t_X5_set.2.1 1 = .ok (.iload_n 1, 1) := by decide +kernel
theorem dX5_set_2 : decode t_X5_set.2.1 2 = .ok (.invokevirtual 30, 3) := by decide +kernel
theorem iX5_set_2 : wm_iv t_X5_set t_X5_knows 2 := ⟨30, wd_413, dX5_set_2⟩
theorem dX5_set_5 : decode t_X5_set.2.1 5 = .ok (.ifCond .eq 26, 3) := by decide +kernel
theorem dX5_set_8 : decode t_X5_set.2.1 8 = .ok (.iload_n 2, 1) := by decide +kernel
theorem dX5_set_9 : decode t_X5_set.2.1 9 = .ok (.ifCond .lt 22, 3) := by decide +kernel
theorem dX5_set_12 : decode t_X5_set.2.1 12 = .ok (.iload_n 2, 1) := by decide +kernel
theorem dX5_set_13 : decode t_X5_set.2.1 13 = .ok (.aload_n 0, 1) := by decide +kernel
theorem dX5_set_14 : decode t_X5_set.2.1 14 = .ok (.getfield 20, 3) := by decide +kernel
theorem gX5_set_14 : wm_gf t_X5_set 14 5 2 := ⟨_, _, _, 20, rfl, by decide, wd_115, dX5_set_14⟩
theorem dX5_set_17 : decode t_X5_set.2.1 17 = .ok (.iload_n 1, 1) := by decide +kernel
theorem dX5_set_18 : decode t_X5_set.2.1 18 = .ok (.iaload, 1) := by decide +kernel
theorem dX5_set_19 : decode t_X5_set.2.1 19 = .ok (.if_icmp .ge 12, 3) := by decide +kernel
theorem dX5_set_22 : decode t_X5_set.2.1 22 = .ok (.aload_n 0, 1) := by decide +kernel
theorem dX5_set_23 : decode t_X5_set.2.1 23 = .ok (.getfield 17, 3) := by decide +kernel
theorem gX5_set_23 : wm_gf t_X5_set 23 5 1 := ⟨_, _, _, 17, rfl, by decide, wd_114, dX5_set_23⟩
theorem dX5_set_26 : decode t_X5_set.2.1 26 = .ok (.iload_n 1, 1) := by decide +kernel
theorem dX5_set_27 : decode t_X5_set.2.1 27 = .ok (.aaload, 1) := by decide +kernel
theorem dX5_set_28 : decode t_X5_set.2.1 28 = .ok (.iload_n 2, 1) := by decide +kernel
theorem dX5_set_29 : decode t_X5_set.2.1 29 = .ok (.iload_n 3, 1) := by decide +kernel
theorem dX5_set_30 : decode t_X5_set.2.1 30 = .ok (.iastore, 1) := by decide +kernel
theorem dX5_set_31 : decode t_X5_set.2.1 31 = .ok (.return_, 1) := by decide +kernel
theorem wd_412 : Cond.code yX5_begin cX5_begin 4 (none) ∈ lw_gd := List.mem_filter.mpr ⟨List.mem_of_getElem? (i := 412) (by decide +kernel), by decide +kernel⟩
theorem wd_410 : Cond.instanceMethod yX5_begin ∈ lw_gd := List.mem_filter.mpr ⟨List.mem_of_getElem? (i := 410) (by decide +kernel), by decide +kernel⟩
theorem wd_411 : Cond.selects RX5 yX5_begin yX5_begin ∈ lw_gd := List.mem_filter.mpr ⟨List.mem_of_getElem? (i := 411) (by decide +kernel), by decide +kernel⟩
theorem vX5_begin : wm_calV t_X5_begin 3 := ⟨⟨wd_412, wd_78, by decide +kernel, by decide +kernel, by decide +kernel⟩, wd_410, wd_411⟩
theorem dX5_begin_0 : decode t_X5_begin.2.1 0 = .ok (.aload_n 0, 1) := by decide +kernel
theorem dX5_begin_1 : decode t_X5_begin.2.1 1 = .ok (.iload_n 1, 1) := by decide +kernel
theorem dX5_begin_2 : decode t_X5_begin.2.1 2 = .ok (.invokevirtual 30, 3) := by decide +kernel
theorem iX5_begin_2 : wm_iv t_X5_begin t_X5_knows 2 := ⟨30, wd_413, dX5_begin_2⟩
theorem dX5_begin_5 : decode t_X5_begin.2.1 5 = .ok (.ifCond .eq 15, 3) := by decide +kernel
theorem dX5_begin_8 : decode t_X5_begin.2.1 8 = .ok (.iload_n 2, 1) := by decide +kernel
theorem dX5_begin_9 : decode t_X5_begin.2.1 9 = .ok (.ifCond .lt 11, 3) := by decide +kernel
theorem dX5_begin_12 : decode t_X5_begin.2.1 12 = .ok (.iload_n 2, 1) := by decide +kernel
theorem dX5_begin_13 : decode t_X5_begin.2.1 13 = .ok (.aload_n 0, 1) := by decide +kernel
theorem dX5_begin_14 : decode t_X5_begin.2.1 14 = .ok (.getfield 9, 3) := by decide +kernel
theorem wd_112 : Cond.fieldLink RX5 9 "TurnedStones$Table" "longest" "I" ∈ lw_gd := List.mem_filter.mpr ⟨List.mem_of_getElem? (i := 112) (by decide +kernel), by decide +kernel⟩
theorem gX5_begin_14 : wm_gf t_X5_begin 14 5 0 := ⟨_, _, _, 9, rfl, by decide, wd_112, dX5_begin_14⟩
theorem dX5_begin_17 : decode t_X5_begin.2.1 17 = .ok (.if_icmp .le 4, 3) := by decide +kernel
theorem dX5_begin_20 : decode t_X5_begin.2.1 20 = .ok (.return_, 1) := by decide +kernel
theorem dX5_begin_21 : decode t_X5_begin.2.1 21 = .ok (.aload_n 0, 1) := by decide +kernel
theorem dX5_begin_22 : decode t_X5_begin.2.1 22 = .ok (.getfield 20, 3) := by decide +kernel
theorem gX5_begin_22 : wm_gf t_X5_begin 22 5 2 := ⟨_, _, _, 20, rfl, by decide, wd_115, dX5_begin_22⟩
theorem dX5_begin_25 : decode t_X5_begin.2.1 25 = .ok (.iload_n 1, 1) := by decide +kernel
theorem dX5_begin_26 : decode t_X5_begin.2.1 26 = .ok (.iload_n 2, 1) := by decide +kernel
theorem dX5_begin_27 : decode t_X5_begin.2.1 27 = .ok (.iastore, 1) := by decide +kernel
theorem dX5_begin_28 : decode t_X5_begin.2.1 28 = .ok (.aload_n 0, 1) := by decide +kernel
theorem dX5_begin_29 : decode t_X5_begin.2.1 29 = .ok (.getfield 17, 3) := by decide +kernel
theorem gX5_begin_29 : wm_gf t_X5_begin 29 5 1 := ⟨_, _, _, 17, rfl, by decide, wd_114, dX5_begin_29⟩
theorem dX5_begin_32 : decode t_X5_begin.2.1 32 = .ok (.iload_n 1, 1) := by decide +kernel
theorem dX5_begin_33 : decode t_X5_begin.2.1 33 = .ok (.aaload, 1) := by decide +kernel
theorem dX5_begin_34 : decode t_X5_begin.2.1 34 = .ok (.iconst 0, 1) := by decide +kernel
theorem dX5_begin_35 : decode t_X5_begin.2.1 35 = .ok (.iload_n 2, 1) := by decide +kernel
theorem dX5_begin_36 : decode t_X5_begin.2.1 36 = .ok (.iload_n 3, 1) := by decide +kernel
theorem dX5_begin_37 : decode t_X5_begin.2.1 37 = .ok (.invokestatic 40, 3) := by decide +kernel
theorem wd_414 : Cond.methodLink RX5 40 yJ7_fill_fda19 ∈ lw_gd := List.mem_filter.mpr ⟨List.mem_of_getElem? (i := 414) (by decide +kernel), by decide +kernel⟩
theorem iX5_begin_37 : wm_is t_X5_begin t_J7_fill_fda19 37 := ⟨40, wd_414, dX5_begin_37⟩
theorem dX5_begin_40 : decode t_X5_begin.2.1 40 = .ok (.return_, 1) := by decide +kernel
theorem wd_459 : Cond.code yX5_drop cX5_drop 2 (none) ∈ lw_gd := List.mem_filter.mpr ⟨List.mem_of_getElem? (i := 459) (by decide +kernel), by decide +kernel⟩
theorem wd_457 : Cond.instanceMethod yX5_drop ∈ lw_gd := List.mem_filter.mpr ⟨List.mem_of_getElem? (i := 457) (by decide +kernel), by decide +kernel⟩
theorem wd_458 : Cond.selects RX5 yX5_drop yX5_drop ∈ lw_gd := List.mem_filter.mpr ⟨List.mem_of_getElem? (i := 458) (by decide +kernel), by decide +kernel⟩
theorem vX5_drop : wm_calV t_X5_drop 1 := ⟨⟨wd_459, wd_78, by decide +kernel, by decide +kernel, by decide +kernel⟩, wd_457, wd_458⟩
theorem dX5_drop_0 : decode t_X5_drop.2.1 0 = .ok (.aload_n 0, 1) := by decide +kernel
theorem dX5_drop_1 : decode t_X5_drop.2.1 1 = .ok (.iload_n 1, 1) := by decide +kernel
theorem dX5_drop_2 : decode t_X5_drop.2.1 2 = .ok (.invokevirtual 30, 3) := by decide +kernel
theorem iX5_drop_2 : wm_iv t_X5_drop t_X5_knows 2 := ⟨30, wd_413, dX5_drop_2⟩
theorem dX5_drop_5 : decode t_X5_drop.2.1 5 = .ok (.ifCond .eq 10, 3) := by decide +kernel
theorem dX5_drop_8 : decode t_X5_drop.2.1 8 = .ok (.aload_n 0, 1) := by decide +kernel
theorem dX5_drop_9 : decode t_X5_drop.2.1 9 = .ok (.getfield 20, 3) := by decide +kernel
theorem gX5_drop_9 : wm_gf t_X5_drop 9 5 2 := ⟨_, _, _, 20, rfl, by decide, wd_115, dX5_drop_9⟩
theorem dX5_drop_12 : decode t_X5_drop.2.1 12 = .ok (.iload_n 1, 1) := by decide +kernel
theorem dX5_drop_13 : decode t_X5_drop.2.1 13 = .ok (.iconst (-1), 1) := by decide +kernel
theorem dX5_drop_14 : decode t_X5_drop.2.1 14 = .ok (.iastore, 1) := by decide +kernel
theorem dX5_drop_15 : decode t_X5_drop.2.1 15 = .ok (.return_, 1) := by decide +kernel
theorem wd_467 : Cond.code yX5_move cX5_move 6 (none) ∈ lw_gd := List.mem_filter.mpr ⟨List.mem_of_getElem? (i := 467) (by decide +kernel), by decide +kernel⟩
theorem wd_465 : Cond.instanceMethod yX5_move ∈ lw_gd := List.mem_filter.mpr ⟨List.mem_of_getElem? (i := 465) (by decide +kernel), by decide +kernel⟩
theorem wd_466 : Cond.selects RX5 yX5_move yX5_move ∈ lw_gd := List.mem_filter.mpr ⟨List.mem_of_getElem? (i := 466) (by decide +kernel), by decide +kernel⟩
theorem vX5_move : wm_calV t_X5_move 5 := ⟨⟨wd_467, wd_78, by decide +kernel, by decide +kernel, by decide +kernel⟩, wd_465, wd_466⟩
theorem dX5_move_0 : decode t_X5_move.2.1 0 = .ok (.iload 5, 2) := by decide +kernel
theorem dX5_move_2 : decode t_X5_move.2.1 2 = .ok (.ifCond .lt 26, 3) := by decide +kernel
theorem dX5_move_5 : decode t_X5_move.2.1 5 = .ok (.aload_n 0, 1) := by decide +kernel
theorem dX5_move_6 : decode t_X5_move.2.1 6 = .ok (.iload_n 1, 1) := by decide +kernel
theorem dX5_move_7 : decode t_X5_move.2.1 7 = .ok (.iload_n 2, 1) := by decide +kernel
theorem dX5_move_8 : decode t_X5_move.2.1 8 = .ok (.iload 5, 2) := by decide +kernel
theorem dX5_move_10 : decode t_X5_move.2.1 10 = .ok (.invokevirtual 43, 3) := by decide +kernel
theorem wd_468 : Cond.methodLink RX5 43 yX5_holds ∈ lw_gd := List.mem_filter.mpr ⟨List.mem_of_getElem? (i := 468) (by decide +kernel), by decide +kernel⟩
theorem iX5_move_10 : wm_iv t_X5_move t_X5_holds 10 := ⟨43, wd_468, dX5_move_10⟩
theorem dX5_move_13 : decode t_X5_move.2.1 13 = .ok (.ifCond .eq 15, 3) := by decide +kernel
theorem dX5_move_16 : decode t_X5_move.2.1 16 = .ok (.aload_n 0, 1) := by decide +kernel
theorem dX5_move_17 : decode t_X5_move.2.1 17 = .ok (.iload_n 3, 1) := by decide +kernel
theorem dX5_move_18 : decode t_X5_move.2.1 18 = .ok (.iload 4, 2) := by decide +kernel
theorem dX5_move_20 : decode t_X5_move.2.1 20 = .ok (.iload 5, 2) := by decide +kernel
theorem dX5_move_22 : decode t_X5_move.2.1 22 = .ok (.invokevirtual 43, 3) := by decide +kernel
theorem iX5_move_22 : wm_iv t_X5_move t_X5_holds 22 := ⟨43, wd_468, dX5_move_22⟩
theorem dX5_move_25 : decode t_X5_move.2.1 25 = .ok (.ifCond .ne 4, 3) := by decide +kernel
theorem dX5_move_28 : decode t_X5_move.2.1 28 = .ok (.return_, 1) := by decide +kernel
theorem dX5_move_29 : decode t_X5_move.2.1 29 = .ok (.aload_n 0, 1) := by decide +kernel
theorem dX5_move_30 : decode t_X5_move.2.1 30 = .ok (.getfield 17, 3) := by decide +kernel
theorem gX5_move_30 : wm_gf t_X5_move 30 5 1 := ⟨_, _, _, 17, rfl, by decide, wd_114, dX5_move_30⟩
theorem dX5_move_33 : decode t_X5_move.2.1 33 = .ok (.iload_n 1, 1) := by decide +kernel
theorem dX5_move_34 : decode t_X5_move.2.1 34 = .ok (.aaload, 1) := by decide +kernel
theorem dX5_move_35 : decode t_X5_move.2.1 35 = .ok (.iload_n 2, 1) := by decide +kernel
theorem dX5_move_36 : decode t_X5_move.2.1 36 = .ok (.aload_n 0, 1) := by decide +kernel
theorem dX5_move_37 : decode t_X5_move.2.1 37 = .ok (.getfield 17, 3) := by decide +kernel
theorem gX5_move_37 : wm_gf t_X5_move 37 5 1 := ⟨_, _, _, 17, rfl, by decide, wd_114, dX5_move_37⟩
theorem dX5_move_40 : decode t_X5_move.2.1 40 = .ok (.iload_n 3, 1) := by decide +kernel
theorem dX5_move_41 : decode t_X5_move.2.1 41 = .ok (.aaload, 1) := by decide +kernel
theorem dX5_move_42 : decode t_X5_move.2.1 42 = .ok (.iload 4, 2) := by decide +kernel
theorem dX5_move_44 : decode t_X5_move.2.1 44 = .ok (.iload 5, 2) := by decide +kernel
theorem dX5_move_46 : decode t_X5_move.2.1 46 = .ok (.invokestatic 47, 3) := by decide +kernel
theorem wd_469 : Cond.methodLink RX5 47 arraycopyName ∈ lw_gd := List.mem_filter.mpr ⟨List.mem_of_getElem? (i := 469) (by decide +kernel), by decide +kernel⟩
theorem iX5_move_46 : wm_ij t_X5_move arraycopyName 46 := ⟨47, wd_469, dX5_move_46⟩
theorem dX5_move_49 : decode t_X5_move.2.1 49 = .ok (.return_, 1) := by decide +kernel
theorem wd_679 : Cond.code yX5_take cX5_take 6 (none) ∈ lw_gd := List.mem_filter.mpr ⟨List.mem_of_getElem? (i := 679) (by decide +kernel), by decide +kernel⟩
theorem wd_677 : Cond.instanceMethod yX5_take ∈ lw_gd := List.mem_filter.mpr ⟨List.mem_of_getElem? (i := 677) (by decide +kernel), by decide +kernel⟩
theorem wd_678 : Cond.selects RX5 yX5_take yX5_take ∈ lw_gd := List.mem_filter.mpr ⟨List.mem_of_getElem? (i := 678) (by decide +kernel), by decide +kernel⟩
theorem vX5_take : wm_calV t_X5_take 3 := ⟨⟨wd_679, wd_78, by decide +kernel, by decide +kernel, by decide +kernel⟩, wd_677, wd_678⟩
theorem dX5_take_0 : decode t_X5_take.2.1 0 = .ok (.aload_n 2, 1) := by decide +kernel
theorem dX5_take_1 : decode t_X5_take.2.1 1 = .ok (.iload_n 3, 1) := by decide +kernel
theorem dX5_take_2 : decode t_X5_take.2.1 2 = .ok (.invokevirtual 53, 3) := by decide +kernel
theorem wd_680 : Cond.methodLink RX5 53 yX5_size ∈ lw_gd := List.mem_filter.mpr ⟨List.mem_of_getElem? (i := 680) (by decide +kernel), by decide +kernel⟩
theorem iX5_take_2 : wm_iv t_X5_take t_X5_size 2 := ⟨53, wd_680, dX5_take_2⟩
theorem dX5_take_5 : decode t_X5_take.2.1 5 = .ok (.istore 4, 2) := by decide +kernel
theorem dX5_take_7 : decode t_X5_take.2.1 7 = .ok (.aload_n 0, 1) := by decide +kernel
theorem dX5_take_8 : decode t_X5_take.2.1 8 = .ok (.iload_n 1, 1) := by decide +kernel
theorem dX5_take_9 : decode t_X5_take.2.1 9 = .ok (.iload 4, 2) := by decide +kernel
theorem dX5_take_11 : decode t_X5_take.2.1 11 = .ok (.iconst 0, 1) := by decide +kernel
theorem dX5_take_12 : decode t_X5_take.2.1 12 = .ok (.invokevirtual 57, 3) := by decide +kernel
theorem wd_681 : Cond.methodLink RX5 57 yX5_begin ∈ lw_gd := List.mem_filter.mpr ⟨List.mem_of_getElem? (i := 681) (by decide +kernel), by decide +kernel⟩
theorem iX5_take_12 : wm_iv t_X5_take t_X5_begin 12 := ⟨57, wd_681, dX5_take_12⟩
theorem dX5_take_15 : decode t_X5_take.2.1 15 = .ok (.iconst 0, 1) := by decide +kernel
theorem dX5_take_16 : decode t_X5_take.2.1 16 = .ok (.istore 5, 2) := by decide +kernel
theorem dX5_take_18 : decode t_X5_take.2.1 18 = .ok (.iload 5, 2) := by decide +kernel
theorem dX5_take_20 : decode t_X5_take.2.1 20 = .ok (.iload 4, 2) := by decide +kernel
theorem dX5_take_22 : decode t_X5_take.2.1 22 = .ok (.if_icmp .ge 23, 3) := by decide +kernel
theorem dX5_take_25 : decode t_X5_take.2.1 25 = .ok (.aload_n 0, 1) := by decide +kernel
theorem dX5_take_26 : decode t_X5_take.2.1 26 = .ok (.iload_n 1, 1) := by decide +kernel
theorem dX5_take_27 : decode t_X5_take.2.1 27 = .ok (.iload 5, 2) := by decide +kernel
theorem dX5_take_29 : decode t_X5_take.2.1 29 = .ok (.aload_n 2, 1) := by decide +kernel
theorem dX5_take_30 : decode t_X5_take.2.1 30 = .ok (.iload_n 3, 1) := by decide +kernel
theorem dX5_take_31 : decode t_X5_take.2.1 31 = .ok (.iload 5, 2) := by decide +kernel
theorem dX5_take_33 : decode t_X5_take.2.1 33 = .ok (.invokevirtual 61, 3) := by decide +kernel
theorem wd_682 : Cond.methodLink RX5 61 yX5_get ∈ lw_gd := List.mem_filter.mpr ⟨List.mem_of_getElem? (i := 682) (by decide +kernel), by decide +kernel⟩
theorem iX5_take_33 : wm_iv t_X5_take t_X5_get 33 := ⟨61, wd_682, dX5_take_33⟩
theorem dX5_take_36 : decode t_X5_take.2.1 36 = .ok (.invokevirtual 64, 3) := by decide +kernel
theorem wd_683 : Cond.methodLink RX5 64 yX5_set ∈ lw_gd := List.mem_filter.mpr ⟨List.mem_of_getElem? (i := 683) (by decide +kernel), by decide +kernel⟩
theorem iX5_take_36 : wm_iv t_X5_take t_X5_set 36 := ⟨64, wd_683, dX5_take_36⟩
theorem dX5_take_39 : decode t_X5_take.2.1 39 = .ok (.iinc 5 1, 3) := by decide +kernel
theorem dX5_take_42 : decode t_X5_take.2.1 42 = .ok (.goto (-24), 3) := by decide +kernel
theorem dX5_take_45 : decode t_X5_take.2.1 45 = .ok (.return_, 1) := by decide +kernel
theorem wd_1076 : Cond.code yX5_number cX5_number 6 (some .int) ∈ lw_gd := List.mem_filter.mpr ⟨List.mem_of_getElem? (i := 1076) (by decide +kernel), by decide +kernel⟩
theorem wd_1074 : Cond.instanceMethod yX5_number ∈ lw_gd := List.mem_filter.mpr ⟨List.mem_of_getElem? (i := 1074) (by decide +kernel), by decide +kernel⟩
theorem wd_1075 : Cond.selects RX5 yX5_number yX5_number ∈ lw_gd := List.mem_filter.mpr ⟨List.mem_of_getElem? (i := 1075) (by decide +kernel), by decide +kernel⟩
theorem vX5_number : wm_calV t_X5_number 0 := ⟨⟨wd_1076, wd_78, by decide +kernel, by decide +kernel, by decide +kernel⟩, wd_1074, wd_1075⟩
theorem dX5_number_0 : decode t_X5_number.2.1 0 = .ok (.iconst 0, 1) := by decide +kernel
theorem dX5_number_1 : decode t_X5_number.2.1 1 = .ok (.istore_n 1, 1) := by decide +kernel
theorem dX5_number_2 : decode t_X5_number.2.1 2 = .ok (.aload_n 0, 1) := by decide +kernel
theorem dX5_number_3 : decode t_X5_number.2.1 3 = .ok (.getfield 20, 3) := by decide +kernel
theorem gX5_number_3 : wm_gf t_X5_number 3 5 2 := ⟨_, _, _, 20, rfl, by decide, wd_115, dX5_number_3⟩
theorem dX5_number_6 : decode t_X5_number.2.1 6 = .ok (.astore_n 2, 1) := by decide +kernel
theorem dX5_number_7 : decode t_X5_number.2.1 7 = .ok (.aload_n 2, 1) := by decide +kernel
theorem dX5_number_8 : decode t_X5_number.2.1 8 = .ok (.arraylength, 1) := by decide +kernel
theorem dX5_number_9 : decode t_X5_number.2.1 9 = .ok (.istore_n 3, 1) := by decide +kernel
theorem dX5_number_10 : decode t_X5_number.2.1 10 = .ok (.iconst 0, 1) := by decide +kernel
theorem dX5_number_11 : decode t_X5_number.2.1 11 = .ok (.istore 4, 2) := by decide +kernel
theorem dX5_number_13 : decode t_X5_number.2.1 13 = .ok (.iload 4, 2) := by decide +kernel
theorem dX5_number_15 : decode t_X5_number.2.1 15 = .ok (.iload_n 3, 1) := by decide +kernel
theorem dX5_number_16 : decode t_X5_number.2.1 16 = .ok (.if_icmp .ge 24, 3) := by decide +kernel
theorem dX5_number_19 : decode t_X5_number.2.1 19 = .ok (.aload_n 2, 1) := by decide +kernel
theorem dX5_number_20 : decode t_X5_number.2.1 20 = .ok (.iload 4, 2) := by decide +kernel
theorem dX5_number_22 : decode t_X5_number.2.1 22 = .ok (.iaload, 1) := by decide +kernel
theorem dX5_number_23 : decode t_X5_number.2.1 23 = .ok (.istore 5, 2) := by decide +kernel
theorem dX5_number_25 : decode t_X5_number.2.1 25 = .ok (.iload 5, 2) := by decide +kernel
theorem dX5_number_27 : decode t_X5_number.2.1 27 = .ok (.iconst (-1), 1) := by decide +kernel
theorem dX5_number_28 : decode t_X5_number.2.1 28 = .ok (.if_icmp .eq 6, 3) := by decide +kernel
theorem dX5_number_31 : decode t_X5_number.2.1 31 = .ok (.iinc 1 1, 3) := by decide +kernel
theorem dX5_number_34 : decode t_X5_number.2.1 34 = .ok (.iinc 4 1, 3) := by decide +kernel
theorem dX5_number_37 : decode t_X5_number.2.1 37 = .ok (.goto (-24), 3) := by decide +kernel
theorem dX5_number_40 : decode t_X5_number.2.1 40 = .ok (.iload_n 1, 1) := by decide +kernel
theorem dX5_number_41 : decode t_X5_number.2.1 41 = .ok (.ireturn, 1) := by decide +kernel
theorem wd_1095 : Cond.code yX5_fold cX5_fold 6 (some .long) ∈ lw_gd := List.mem_filter.mpr ⟨List.mem_of_getElem? (i := 1095) (by decide +kernel), by decide +kernel⟩
theorem wd_1093 : Cond.instanceMethod yX5_fold ∈ lw_gd := List.mem_filter.mpr ⟨List.mem_of_getElem? (i := 1093) (by decide +kernel), by decide +kernel⟩
theorem wd_1094 : Cond.selects RX5 yX5_fold yX5_fold ∈ lw_gd := List.mem_filter.mpr ⟨List.mem_of_getElem? (i := 1094) (by decide +kernel), by decide +kernel⟩
theorem vX5_fold : wm_calV t_X5_fold 1 := ⟨⟨wd_1095, wd_78, by decide +kernel, by decide +kernel, by decide +kernel⟩, wd_1093, wd_1094⟩
theorem dX5_fold_0 : decode t_X5_fold.2.1 0 = .ok (.lload_n 1, 1) := by decide +kernel
theorem dX5_fold_1 : decode t_X5_fold.2.1 1 = .ok (.lstore_n 3, 1) := by decide +kernel
theorem dX5_fold_2 : decode t_X5_fold.2.1 2 = .ok (.iconst 0, 1) := by decide +kernel
theorem dX5_fold_3 : decode t_X5_fold.2.1 3 = .ok (.istore 5, 2) := by decide +kernel
theorem dX5_fold_5 : decode t_X5_fold.2.1 5 = .ok (.iload 5, 2) := by decide +kernel
theorem dX5_fold_7 : decode t_X5_fold.2.1 7 = .ok (.aload_n 0, 1) := by decide +kernel
theorem dX5_fold_8 : decode t_X5_fold.2.1 8 = .ok (.getfield 20, 3) := by decide +kernel
theorem gX5_fold_8 : wm_gf t_X5_fold 8 5 2 := ⟨_, _, _, 20, rfl, by decide, wd_115, dX5_fold_8⟩
theorem dX5_fold_11 : decode t_X5_fold.2.1 11 = .ok (.arraylength, 1) := by decide +kernel
theorem dX5_fold_12 : decode t_X5_fold.2.1 12 = .ok (.if_icmp .ge 30, 3) := by decide +kernel
theorem dX5_fold_15 : decode t_X5_fold.2.1 15 = .ok (.aload_n 0, 1) := by decide +kernel
theorem dX5_fold_16 : decode t_X5_fold.2.1 16 = .ok (.ldc2_w 67, 3) := by decide +kernel
theorem wd_1096 : Cond.constantLong RX5 67 (31) ∈ lw_gd := List.mem_filter.mpr ⟨List.mem_of_getElem? (i := 1096) (by decide +kernel), by decide +kernel⟩
theorem kX5_fold_16 : Cond.constantLong t_X5_fold.1.cls 67 (31) ∈ lw_gd := wd_1096
theorem dX5_fold_19 : decode t_X5_fold.2.1 19 = .ok (.lload_n 3, 1) := by decide +kernel
theorem dX5_fold_20 : decode t_X5_fold.2.1 20 = .ok (.lmul, 1) := by decide +kernel
theorem dX5_fold_21 : decode t_X5_fold.2.1 21 = .ok (.aload_n 0, 1) := by decide +kernel
theorem dX5_fold_22 : decode t_X5_fold.2.1 22 = .ok (.getfield 20, 3) := by decide +kernel
theorem gX5_fold_22 : wm_gf t_X5_fold 22 5 2 := ⟨_, _, _, 20, rfl, by decide, wd_115, dX5_fold_22⟩
theorem dX5_fold_25 : decode t_X5_fold.2.1 25 = .ok (.iload 5, 2) := by decide +kernel
theorem dX5_fold_27 : decode t_X5_fold.2.1 27 = .ok (.iaload, 1) := by decide +kernel
theorem dX5_fold_28 : decode t_X5_fold.2.1 28 = .ok (.i2l, 1) := by decide +kernel
theorem dX5_fold_29 : decode t_X5_fold.2.1 29 = .ok (.ladd, 1) := by decide +kernel
theorem dX5_fold_30 : decode t_X5_fold.2.1 30 = .ok (.iload 5, 2) := by decide +kernel
theorem dX5_fold_32 : decode t_X5_fold.2.1 32 = .ok (.invokevirtual 69, 3) := by decide +kernel
theorem wd_1097 : Cond.methodLink RX5 69 yX5_foldPlaces ∈ lw_gd := List.mem_filter.mpr ⟨List.mem_of_getElem? (i := 1097) (by decide +kernel), by decide +kernel⟩
theorem iX5_fold_32 : wm_iv t_X5_fold t_X5_foldPlaces 32 := ⟨69, wd_1097, dX5_fold_32⟩
theorem dX5_fold_35 : decode t_X5_fold.2.1 35 = .ok (.lstore_n 3, 1) := by decide +kernel
theorem dX5_fold_36 : decode t_X5_fold.2.1 36 = .ok (.iinc 5 1, 3) := by decide +kernel
theorem dX5_fold_39 : decode t_X5_fold.2.1 39 = .ok (.goto (-34), 3) := by decide +kernel
theorem dX5_fold_42 : decode t_X5_fold.2.1 42 = .ok (.lload_n 3, 1) := by decide +kernel
theorem dX5_fold_43 : decode t_X5_fold.2.1 43 = .ok (.lreturn, 1) := by decide +kernel
theorem wd_1100 : Cond.code yX5_foldPlaces cX5_foldPlaces 7 (some .long) ∈ lw_gd := List.mem_filter.mpr ⟨List.mem_of_getElem? (i := 1100) (by decide +kernel), by decide +kernel⟩
theorem wd_1098 : Cond.instanceMethod yX5_foldPlaces ∈ lw_gd := List.mem_filter.mpr ⟨List.mem_of_getElem? (i := 1098) (by decide +kernel), by decide +kernel⟩
theorem wd_1099 : Cond.selects RX5 yX5_foldPlaces yX5_foldPlaces ∈ lw_gd := List.mem_filter.mpr ⟨List.mem_of_getElem? (i := 1099) (by decide +kernel), by decide +kernel⟩
theorem vX5_foldPlaces : wm_calV t_X5_foldPlaces 2 := ⟨⟨wd_1100, wd_78, by decide +kernel, by decide +kernel, by decide +kernel⟩, wd_1098, wd_1099⟩
theorem dX5_foldPlaces_0 : decode t_X5_foldPlaces.2.1 0 = .ok (.lload_n 1, 1) := by decide +kernel
theorem dX5_foldPlaces_1 : decode t_X5_foldPlaces.2.1 1 = .ok (.lstore 4, 2) := by decide +kernel
theorem dX5_foldPlaces_3 : decode t_X5_foldPlaces.2.1 3 = .ok (.iconst 0, 1) := by decide +kernel
theorem dX5_foldPlaces_4 : decode t_X5_foldPlaces.2.1 4 = .ok (.istore 6, 2) := by decide +kernel
theorem dX5_foldPlaces_6 : decode t_X5_foldPlaces.2.1 6 = .ok (.iload 6, 2) := by decide +kernel
theorem dX5_foldPlaces_8 : decode t_X5_foldPlaces.2.1 8 = .ok (.aload_n 0, 1) := by decide +kernel
theorem dX5_foldPlaces_9 : decode t_X5_foldPlaces.2.1 9 = .ok (.iload_n 3, 1) := by decide +kernel
theorem dX5_foldPlaces_10 : decode t_X5_foldPlaces.2.1 10 = .ok (.invokevirtual 53, 3) := by decide +kernel
theorem iX5_foldPlaces_10 : wm_iv t_X5_foldPlaces t_X5_size 10 := ⟨53, wd_680, dX5_foldPlaces_10⟩
theorem dX5_foldPlaces_13 : decode t_X5_foldPlaces.2.1 13 = .ok (.if_icmp .ge 28, 3) := by decide +kernel
theorem dX5_foldPlaces_16 : decode t_X5_foldPlaces.2.1 16 = .ok (.ldc2_w 67, 3) := by decide +kernel
theorem kX5_foldPlaces_16 : Cond.constantLong t_X5_foldPlaces.1.cls 67 (31) ∈ lw_gd := wd_1096
theorem dX5_foldPlaces_19 : decode t_X5_foldPlaces.2.1 19 = .ok (.lload 4, 2) := by decide +kernel
theorem dX5_foldPlaces_21 : decode t_X5_foldPlaces.2.1 21 = .ok (.lmul, 1) := by decide +kernel
theorem dX5_foldPlaces_22 : decode t_X5_foldPlaces.2.1 22 = .ok (.aload_n 0, 1) := by decide +kernel
theorem dX5_foldPlaces_23 : decode t_X5_foldPlaces.2.1 23 = .ok (.getfield 17, 3) := by decide +kernel
theorem gX5_foldPlaces_23 : wm_gf t_X5_foldPlaces 23 5 1 := ⟨_, _, _, 17, rfl, by decide, wd_114, dX5_foldPlaces_23⟩
theorem dX5_foldPlaces_26 : decode t_X5_foldPlaces.2.1 26 = .ok (.iload_n 3, 1) := by decide +kernel
theorem dX5_foldPlaces_27 : decode t_X5_foldPlaces.2.1 27 = .ok (.aaload, 1) := by decide +kernel
theorem dX5_foldPlaces_28 : decode t_X5_foldPlaces.2.1 28 = .ok (.iload 6, 2) := by decide +kernel
theorem dX5_foldPlaces_30 : decode t_X5_foldPlaces.2.1 30 = .ok (.iaload, 1) := by decide +kernel
theorem dX5_foldPlaces_31 : decode t_X5_foldPlaces.2.1 31 = .ok (.i2l, 1) := by decide +kernel
theorem dX5_foldPlaces_32 : decode t_X5_foldPlaces.2.1 32 = .ok (.ladd, 1) := by decide +kernel
theorem dX5_foldPlaces_33 : decode t_X5_foldPlaces.2.1 33 = .ok (.lstore 4, 2) := by decide +kernel
theorem dX5_foldPlaces_35 : decode t_X5_foldPlaces.2.1 35 = .ok (.iinc 6 1, 3) := by decide +kernel
theorem dX5_foldPlaces_38 : decode t_X5_foldPlaces.2.1 38 = .ok (.goto (-32), 3) := by decide +kernel
theorem dX5_foldPlaces_41 : decode t_X5_foldPlaces.2.1 41 = .ok (.lload 4, 2) := by decide +kernel
theorem dX5_foldPlaces_43 : decode t_X5_foldPlaces.2.1 43 = .ok (.lreturn, 1) := by decide +kernel
