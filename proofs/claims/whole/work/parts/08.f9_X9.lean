theorem wd_392 : Cond.code yX9_row cX9_row 3 (some .int) ∈ lw_gd := List.mem_filter.mpr ⟨List.mem_of_getElem? (i := 392) (by decide +kernel), by decide +kernel⟩
theorem wd_77 : Cond.initialized RX9 ∈ lw_gd := List.mem_filter.mpr ⟨List.mem_of_getElem? (i := 77) (by decide +kernel), by decide +kernel⟩
theorem wd_390 : Cond.instanceMethod yX9_row ∈ lw_gd := List.mem_filter.mpr ⟨List.mem_of_getElem? (i := 390) (by decide +kernel), by decide +kernel⟩
theorem wd_391 : Cond.selects RX9 yX9_row yX9_row ∈ lw_gd := List.mem_filter.mpr ⟨List.mem_of_getElem? (i := 391) (by decide +kernel), by decide +kernel⟩
theorem vX9_row : wm_calV t_X9_row 2 := ⟨⟨wd_392, wd_77, by decide +kernel, by decide +kernel, by decide +kernel⟩, wd_390, wd_391⟩
theorem dX9_row_0 : decode t_X9_row.2.1 0 = .ok (.aload_n 0, 1) := by decide +kernel
theorem dX9_row_1 : decode t_X9_row.2.1 1 = .ok (.aload_n 0, 1) := by decide +kernel
theorem dX9_row_2 : decode t_X9_row.2.1 2 = .ok (.getfield 14, 3) := by decide +kernel
theorem wd_346 : Cond.fieldLink RX9 14 "TurnedStones" "rows" "LTurnedStones$Table;" ∈ lw_gd := List.mem_filter.mpr ⟨List.mem_of_getElem? (i := 346) (by decide +kernel), by decide +kernel⟩
theorem gX9_row_2 : wm_gf t_X9_row 2 9 0 := ⟨_, _, _, 14, rfl, by decide, wd_346, dX9_row_2⟩
theorem dX9_row_5 : decode t_X9_row.2.1 5 = .ok (.iload_n 1, 1) := by decide +kernel
theorem dX9_row_6 : decode t_X9_row.2.1 6 = .ok (.iload_n 2, 1) := by decide +kernel
theorem dX9_row_7 : decode t_X9_row.2.1 7 = .ok (.iconst 0, 1) := by decide +kernel
theorem dX9_row_8 : decode t_X9_row.2.1 8 = .ok (.invokevirtual 101, 3) := by decide +kernel
theorem wd_393 : Cond.methodLink RX9 101 yX9_begin ∈ lw_gd := List.mem_filter.mpr ⟨List.mem_of_getElem? (i := 393) (by decide +kernel), by decide +kernel⟩
theorem iX9_row_8 : wm_iv t_X9_row t_X9_begin 8 := ⟨101, wd_393, dX9_row_8⟩
theorem dX9_row_11 : decode t_X9_row.2.1 11 = .ok (.ireturn, 1) := by decide +kernel
theorem wd_423 : Cond.code yX9_lay cX9_lay 5 (some .int) ∈ lw_gd := List.mem_filter.mpr ⟨List.mem_of_getElem? (i := 423) (by decide +kernel), by decide +kernel⟩
theorem wd_421 : Cond.instanceMethod yX9_lay ∈ lw_gd := List.mem_filter.mpr ⟨List.mem_of_getElem? (i := 421) (by decide +kernel), by decide +kernel⟩
theorem wd_422 : Cond.selects RX9 yX9_lay yX9_lay ∈ lw_gd := List.mem_filter.mpr ⟨List.mem_of_getElem? (i := 422) (by decide +kernel), by decide +kernel⟩
theorem vX9_lay : wm_calV t_X9_lay 3 := ⟨⟨wd_423, wd_77, by decide +kernel, by decide +kernel, by decide +kernel⟩, wd_421, wd_422⟩
theorem dX9_lay_0 : decode t_X9_lay.2.1 0 = .ok (.aload_n 0, 1) := by decide +kernel
theorem dX9_lay_1 : decode t_X9_lay.2.1 1 = .ok (.aload_n 0, 1) := by decide +kernel
theorem dX9_lay_2 : decode t_X9_lay.2.1 2 = .ok (.getfield 14, 3) := by decide +kernel
theorem gX9_lay_2 : wm_gf t_X9_lay 2 9 0 := ⟨_, _, _, 14, rfl, by decide, wd_346, dX9_lay_2⟩
theorem dX9_lay_5 : decode t_X9_lay.2.1 5 = .ok (.iload_n 1, 1) := by decide +kernel
theorem dX9_lay_6 : decode t_X9_lay.2.1 6 = .ok (.iload_n 2, 1) := by decide +kernel
theorem dX9_lay_7 : decode t_X9_lay.2.1 7 = .ok (.invokevirtual 105, 3) := by decide +kernel
theorem wd_424 : Cond.methodLink RX9 105 yX9_placeRefusal ∈ lw_gd := List.mem_filter.mpr ⟨List.mem_of_getElem? (i := 424) (by decide +kernel), by decide +kernel⟩
theorem iX9_lay_7 : wm_iv t_X9_lay t_X9_placeRefusal 7 := ⟨105, wd_424, dX9_lay_7⟩
theorem dX9_lay_10 : decode t_X9_lay.2.1 10 = .ok (.istore 4, 2) := by decide +kernel
theorem dX9_lay_12 : decode t_X9_lay.2.1 12 = .ok (.iload 4, 2) := by decide +kernel
theorem dX9_lay_14 : decode t_X9_lay.2.1 14 = .ok (.ifCond .eq 6, 3) := by decide +kernel
theorem dX9_lay_17 : decode t_X9_lay.2.1 17 = .ok (.iload 4, 2) := by decide +kernel
theorem dX9_lay_19 : decode t_X9_lay.2.1 19 = .ok (.ireturn, 1) := by decide +kernel
theorem dX9_lay_20 : decode t_X9_lay.2.1 20 = .ok (.aload_n 0, 1) := by decide +kernel
theorem dX9_lay_21 : decode t_X9_lay.2.1 21 = .ok (.getfield 77, 3) := by decide +kernel
theorem wd_355 : Cond.fieldLink RX9 77 "TurnedStones" "told" "LTurnedStones$Told;" ∈ lw_gd := List.mem_filter.mpr ⟨List.mem_of_getElem? (i := 355) (by decide +kernel), by decide +kernel⟩
theorem gX9_lay_21 : wm_gf t_X9_lay 21 9 9 := ⟨_, _, _, 77, rfl, by decide, wd_355, dX9_lay_21⟩
theorem dX9_lay_24 : decode t_X9_lay.2.1 24 = .ok (.aload_n 0, 1) := by decide +kernel
theorem dX9_lay_25 : decode t_X9_lay.2.1 25 = .ok (.getfield 14, 3) := by decide +kernel
theorem gX9_lay_25 : wm_gf t_X9_lay 25 9 0 := ⟨_, _, _, 14, rfl, by decide, wd_346, dX9_lay_25⟩
theorem dX9_lay_28 : decode t_X9_lay.2.1 28 = .ok (.iload_n 1, 1) := by decide +kernel
theorem dX9_lay_29 : decode t_X9_lay.2.1 29 = .ok (.iload_n 2, 1) := by decide +kernel
theorem dX9_lay_30 : decode t_X9_lay.2.1 30 = .ok (.invokevirtual 109, 3) := by decide +kernel
theorem wd_440 : Cond.methodLink RX9 109 yX5_get ∈ lw_gd := List.mem_filter.mpr ⟨List.mem_of_getElem? (i := 440) (by decide +kernel), by decide +kernel⟩
theorem iX9_lay_30 : wm_iv t_X9_lay t_X5_get 30 := ⟨109, wd_440, dX9_lay_30⟩
theorem dX9_lay_33 : decode t_X9_lay.2.1 33 = .ok (.putfield 113, 3) := by decide +kernel
theorem wd_325 : Cond.fieldLink RX9 113 "TurnedStones$Told" "answer" "I" ∈ lw_gd := List.mem_filter.mpr ⟨List.mem_of_getElem? (i := 325) (by decide +kernel), by decide +kernel⟩
theorem gX9_lay_33 : wm_pf t_X9_lay 33 6 0 .int := ⟨_, _, _, 113, rfl, by decide, wd_325, dX9_lay_33, rfl, by decide +kernel⟩
theorem dX9_lay_36 : decode t_X9_lay.2.1 36 = .ok (.aload_n 0, 1) := by decide +kernel
theorem dX9_lay_37 : decode t_X9_lay.2.1 37 = .ok (.getfield 14, 3) := by decide +kernel
theorem gX9_lay_37 : wm_gf t_X9_lay 37 9 0 := ⟨_, _, _, 14, rfl, by decide, wd_346, dX9_lay_37⟩
theorem dX9_lay_40 : decode t_X9_lay.2.1 40 = .ok (.iload_n 1, 1) := by decide +kernel
theorem dX9_lay_41 : decode t_X9_lay.2.1 41 = .ok (.iload_n 2, 1) := by decide +kernel
theorem dX9_lay_42 : decode t_X9_lay.2.1 42 = .ok (.iload_n 3, 1) := by decide +kernel
theorem dX9_lay_43 : decode t_X9_lay.2.1 43 = .ok (.invokevirtual 116, 3) := by decide +kernel
theorem wd_444 : Cond.methodLink RX9 116 yX5_set ∈ lw_gd := List.mem_filter.mpr ⟨List.mem_of_getElem? (i := 444) (by decide +kernel), by decide +kernel⟩
theorem iX9_lay_43 : wm_iv t_X9_lay t_X5_set 43 := ⟨116, wd_444, dX9_lay_43⟩
theorem dX9_lay_46 : decode t_X9_lay.2.1 46 = .ok (.iconst 1, 1) := by decide +kernel
theorem dX9_lay_47 : decode t_X9_lay.2.1 47 = .ok (.ireturn, 1) := by decide +kernel
theorem wd_451 : Cond.code yX9_at cX9_at 4 (some .int) ∈ lw_gd := List.mem_filter.mpr ⟨List.mem_of_getElem? (i := 451) (by decide +kernel), by decide +kernel⟩
theorem wd_449 : Cond.instanceMethod yX9_at ∈ lw_gd := List.mem_filter.mpr ⟨List.mem_of_getElem? (i := 449) (by decide +kernel), by decide +kernel⟩
theorem wd_450 : Cond.selects RX9 yX9_at yX9_at ∈ lw_gd := List.mem_filter.mpr ⟨List.mem_of_getElem? (i := 450) (by decide +kernel), by decide +kernel⟩
theorem vX9_at : wm_calV t_X9_at 2 := ⟨⟨wd_451, wd_77, by decide +kernel, by decide +kernel, by decide +kernel⟩, wd_449, wd_450⟩
theorem dX9_at_0 : decode t_X9_at.2.1 0 = .ok (.aload_n 0, 1) := by decide +kernel
theorem dX9_at_1 : decode t_X9_at.2.1 1 = .ok (.aload_n 0, 1) := by decide +kernel
theorem dX9_at_2 : decode t_X9_at.2.1 2 = .ok (.getfield 14, 3) := by decide +kernel
theorem gX9_at_2 : wm_gf t_X9_at 2 9 0 := ⟨_, _, _, 14, rfl, by decide, wd_346, dX9_at_2⟩
theorem dX9_at_5 : decode t_X9_at.2.1 5 = .ok (.iload_n 1, 1) := by decide +kernel
theorem dX9_at_6 : decode t_X9_at.2.1 6 = .ok (.iload_n 2, 1) := by decide +kernel
theorem dX9_at_7 : decode t_X9_at.2.1 7 = .ok (.invokevirtual 105, 3) := by decide +kernel
theorem iX9_at_7 : wm_iv t_X9_at t_X9_placeRefusal 7 := ⟨105, wd_424, dX9_at_7⟩
theorem dX9_at_10 : decode t_X9_at.2.1 10 = .ok (.istore_n 3, 1) := by decide +kernel
theorem dX9_at_11 : decode t_X9_at.2.1 11 = .ok (.iload_n 3, 1) := by decide +kernel
theorem dX9_at_12 : decode t_X9_at.2.1 12 = .ok (.ifCond .eq 5, 3) := by decide +kernel
theorem dX9_at_15 : decode t_X9_at.2.1 15 = .ok (.iload_n 3, 1) := by decide +kernel
theorem dX9_at_16 : decode t_X9_at.2.1 16 = .ok (.ireturn, 1) := by decide +kernel
theorem dX9_at_17 : decode t_X9_at.2.1 17 = .ok (.aload_n 0, 1) := by decide +kernel
theorem dX9_at_18 : decode t_X9_at.2.1 18 = .ok (.getfield 77, 3) := by decide +kernel
theorem gX9_at_18 : wm_gf t_X9_at 18 9 9 := ⟨_, _, _, 77, rfl, by decide, wd_355, dX9_at_18⟩
theorem dX9_at_21 : decode t_X9_at.2.1 21 = .ok (.aload_n 0, 1) := by decide +kernel
theorem dX9_at_22 : decode t_X9_at.2.1 22 = .ok (.getfield 14, 3) := by decide +kernel
theorem gX9_at_22 : wm_gf t_X9_at 22 9 0 := ⟨_, _, _, 14, rfl, by decide, wd_346, dX9_at_22⟩
theorem dX9_at_25 : decode t_X9_at.2.1 25 = .ok (.iload_n 1, 1) := by decide +kernel
theorem dX9_at_26 : decode t_X9_at.2.1 26 = .ok (.iload_n 2, 1) := by decide +kernel
theorem dX9_at_27 : decode t_X9_at.2.1 27 = .ok (.invokevirtual 109, 3) := by decide +kernel
theorem iX9_at_27 : wm_iv t_X9_at t_X5_get 27 := ⟨109, wd_440, dX9_at_27⟩
theorem dX9_at_30 : decode t_X9_at.2.1 30 = .ok (.putfield 113, 3) := by decide +kernel
theorem gX9_at_30 : wm_pf t_X9_at 30 6 0 .int := ⟨_, _, _, 113, rfl, by decide, wd_325, dX9_at_30, rfl, by decide +kernel⟩
theorem dX9_at_33 : decode t_X9_at.2.1 33 = .ok (.iconst 1, 1) := by decide +kernel
theorem dX9_at_34 : decode t_X9_at.2.1 34 = .ok (.ireturn, 1) := by decide +kernel
theorem wd_455 : Cond.code yX9_tear cX9_tear 3 (some .int) ∈ lw_gd := List.mem_filter.mpr ⟨List.mem_of_getElem? (i := 455) (by decide +kernel), by decide +kernel⟩
theorem wd_453 : Cond.instanceMethod yX9_tear ∈ lw_gd := List.mem_filter.mpr ⟨List.mem_of_getElem? (i := 453) (by decide +kernel), by decide +kernel⟩
theorem wd_454 : Cond.selects RX9 yX9_tear yX9_tear ∈ lw_gd := List.mem_filter.mpr ⟨List.mem_of_getElem? (i := 454) (by decide +kernel), by decide +kernel⟩
theorem vX9_tear : wm_calV t_X9_tear 1 := ⟨⟨wd_455, wd_77, by decide +kernel, by decide +kernel, by decide +kernel⟩, wd_453, wd_454⟩
theorem dX9_tear_0 : decode t_X9_tear.2.1 0 = .ok (.aload_n 0, 1) := by decide +kernel
theorem dX9_tear_1 : decode t_X9_tear.2.1 1 = .ok (.aload_n 0, 1) := by decide +kernel
theorem dX9_tear_2 : decode t_X9_tear.2.1 2 = .ok (.getfield 14, 3) := by decide +kernel
theorem gX9_tear_2 : wm_gf t_X9_tear 2 9 0 := ⟨_, _, _, 14, rfl, by decide, wd_346, dX9_tear_2⟩
theorem dX9_tear_5 : decode t_X9_tear.2.1 5 = .ok (.iload_n 1, 1) := by decide +kernel
theorem dX9_tear_6 : decode t_X9_tear.2.1 6 = .ok (.invokevirtual 120, 3) := by decide +kernel
theorem wd_428 : Cond.methodLink RX9 120 yX9_refusal ∈ lw_gd := List.mem_filter.mpr ⟨List.mem_of_getElem? (i := 428) (by decide +kernel), by decide +kernel⟩
theorem iX9_tear_6 : wm_iv t_X9_tear t_X9_refusal 6 := ⟨120, wd_428, dX9_tear_6⟩
theorem dX9_tear_9 : decode t_X9_tear.2.1 9 = .ok (.istore_n 2, 1) := by decide +kernel
theorem dX9_tear_10 : decode t_X9_tear.2.1 10 = .ok (.iload_n 2, 1) := by decide +kernel
theorem dX9_tear_11 : decode t_X9_tear.2.1 11 = .ok (.ifCond .eq 5, 3) := by decide +kernel
theorem dX9_tear_14 : decode t_X9_tear.2.1 14 = .ok (.iload_n 2, 1) := by decide +kernel
theorem dX9_tear_15 : decode t_X9_tear.2.1 15 = .ok (.ireturn, 1) := by decide +kernel
theorem dX9_tear_16 : decode t_X9_tear.2.1 16 = .ok (.aload_n 0, 1) := by decide +kernel
theorem dX9_tear_17 : decode t_X9_tear.2.1 17 = .ok (.getfield 14, 3) := by decide +kernel
theorem gX9_tear_17 : wm_gf t_X9_tear 17 9 0 := ⟨_, _, _, 14, rfl, by decide, wd_346, dX9_tear_17⟩
theorem dX9_tear_20 : decode t_X9_tear.2.1 20 = .ok (.iload_n 1, 1) := by decide +kernel
theorem dX9_tear_21 : decode t_X9_tear.2.1 21 = .ok (.invokevirtual 124, 3) := by decide +kernel
theorem wd_456 : Cond.methodLink RX9 124 yX5_drop ∈ lw_gd := List.mem_filter.mpr ⟨List.mem_of_getElem? (i := 456) (by decide +kernel), by decide +kernel⟩
theorem iX9_tear_21 : wm_iv t_X9_tear t_X5_drop 21 := ⟨124, wd_456, dX9_tear_21⟩
theorem dX9_tear_24 : decode t_X9_tear.2.1 24 = .ok (.iconst 1, 1) := by decide +kernel
theorem dX9_tear_25 : decode t_X9_tear.2.1 25 = .ok (.ireturn, 1) := by decide +kernel
theorem wd_463 : Cond.code yX9_copy cX9_copy 6 (some .int) ∈ lw_gd := List.mem_filter.mpr ⟨List.mem_of_getElem? (i := 463) (by decide +kernel), by decide +kernel⟩
theorem wd_461 : Cond.instanceMethod yX9_copy ∈ lw_gd := List.mem_filter.mpr ⟨List.mem_of_getElem? (i := 461) (by decide +kernel), by decide +kernel⟩
theorem wd_462 : Cond.selects RX9 yX9_copy yX9_copy ∈ lw_gd := List.mem_filter.mpr ⟨List.mem_of_getElem? (i := 462) (by decide +kernel), by decide +kernel⟩
theorem vX9_copy : wm_calV t_X9_copy 5 := ⟨⟨wd_463, wd_77, by decide +kernel, by decide +kernel, by decide +kernel⟩, wd_461, wd_462⟩
theorem dX9_copy_0 : decode t_X9_copy.2.1 0 = .ok (.aload_n 0, 1) := by decide +kernel
theorem dX9_copy_1 : decode t_X9_copy.2.1 1 = .ok (.getfield 14, 3) := by decide +kernel
theorem gX9_copy_1 : wm_gf t_X9_copy 1 9 0 := ⟨_, _, _, 14, rfl, by decide, wd_346, dX9_copy_1⟩
theorem dX9_copy_4 : decode t_X9_copy.2.1 4 = .ok (.iload_n 1, 1) := by decide +kernel
theorem dX9_copy_5 : decode t_X9_copy.2.1 5 = .ok (.invokevirtual 128, 3) := by decide +kernel
theorem wd_397 : Cond.methodLink RX9 128 yX5_knows ∈ lw_gd := List.mem_filter.mpr ⟨List.mem_of_getElem? (i := 397) (by decide +kernel), by decide +kernel⟩
theorem iX9_copy_5 : wm_iv t_X9_copy t_X5_knows 5 := ⟨128, wd_397, dX9_copy_5⟩
theorem dX9_copy_8 : decode t_X9_copy.2.1 8 = .ok (.ifCond .eq 14, 3) := by decide +kernel
theorem dX9_copy_11 : decode t_X9_copy.2.1 11 = .ok (.aload_n 0, 1) := by decide +kernel
theorem dX9_copy_12 : decode t_X9_copy.2.1 12 = .ok (.getfield 14, 3) := by decide +kernel
theorem gX9_copy_12 : wm_gf t_X9_copy 12 9 0 := ⟨_, _, _, 14, rfl, by decide, wd_346, dX9_copy_12⟩
theorem dX9_copy_15 : decode t_X9_copy.2.1 15 = .ok (.iload_n 3, 1) := by decide +kernel
theorem dX9_copy_16 : decode t_X9_copy.2.1 16 = .ok (.invokevirtual 128, 3) := by decide +kernel
theorem iX9_copy_16 : wm_iv t_X9_copy t_X5_knows 16 := ⟨128, wd_397, dX9_copy_16⟩
theorem dX9_copy_19 : decode t_X9_copy.2.1 19 = .ok (.ifCond .ne 5, 3) := by decide +kernel
theorem dX9_copy_22 : decode t_X9_copy.2.1 22 = .ok (.iconst (-1), 1) := by decide +kernel
theorem dX9_copy_23 : decode t_X9_copy.2.1 23 = .ok (.ireturn, 1) := by decide +kernel
theorem dX9_copy_24 : decode t_X9_copy.2.1 24 = .ok (.iload 5, 2) := by decide +kernel
theorem dX9_copy_26 : decode t_X9_copy.2.1 26 = .ok (.ifCond .ge 9, 3) := by decide +kernel
theorem dX9_copy_29 : decode t_X9_copy.2.1 29 = .ok (.aload_n 0, 1) := by decide +kernel
theorem dX9_copy_30 : decode t_X9_copy.2.1 30 = .ok (.iconst 5, 1) := by decide +kernel
theorem dX9_copy_31 : decode t_X9_copy.2.1 31 = .ok (.invokevirtual 132, 3) := by decide +kernel
theorem wd_401 : Cond.methodLink RX9 132 yX9_find ∈ lw_gd := List.mem_filter.mpr ⟨List.mem_of_getElem? (i := 401) (by decide +kernel), by decide +kernel⟩
theorem iX9_copy_31 : wm_iv t_X9_copy t_X9_find 31 := ⟨132, wd_401, dX9_copy_31⟩
theorem dX9_copy_34 : decode t_X9_copy.2.1 34 = .ok (.ireturn, 1) := by decide +kernel
theorem dX9_copy_35 : decode t_X9_copy.2.1 35 = .ok (.aload_n 0, 1) := by decide +kernel
theorem dX9_copy_36 : decode t_X9_copy.2.1 36 = .ok (.getfield 14, 3) := by decide +kernel
theorem gX9_copy_36 : wm_gf t_X9_copy 36 9 0 := ⟨_, _, _, 14, rfl, by decide, wd_346, dX9_copy_36⟩
theorem dX9_copy_39 : decode t_X9_copy.2.1 39 = .ok (.iload_n 1, 1) := by decide +kernel
theorem dX9_copy_40 : decode t_X9_copy.2.1 40 = .ok (.invokevirtual 136, 3) := by decide +kernel
theorem wd_432 : Cond.methodLink RX9 136 yX5_has ∈ lw_gd := List.mem_filter.mpr ⟨List.mem_of_getElem? (i := 432) (by decide +kernel), by decide +kernel⟩
theorem iX9_copy_40 : wm_iv t_X9_copy t_X5_has 40 := ⟨136, wd_432, dX9_copy_40⟩
theorem dX9_copy_43 : decode t_X9_copy.2.1 43 = .ok (.ifCond .eq 14, 3) := by decide +kernel
theorem dX9_copy_46 : decode t_X9_copy.2.1 46 = .ok (.aload_n 0, 1) := by decide +kernel
theorem dX9_copy_47 : decode t_X9_copy.2.1 47 = .ok (.getfield 14, 3) := by decide +kernel
theorem gX9_copy_47 : wm_gf t_X9_copy 47 9 0 := ⟨_, _, _, 14, rfl, by decide, wd_346, dX9_copy_47⟩
theorem dX9_copy_50 : decode t_X9_copy.2.1 50 = .ok (.iload_n 3, 1) := by decide +kernel
theorem dX9_copy_51 : decode t_X9_copy.2.1 51 = .ok (.invokevirtual 136, 3) := by decide +kernel
theorem iX9_copy_51 : wm_iv t_X9_copy t_X5_has 51 := ⟨136, wd_432, dX9_copy_51⟩
theorem dX9_copy_54 : decode t_X9_copy.2.1 54 = .ok (.ifCond .ne 9, 3) := by decide +kernel
theorem dX9_copy_57 : decode t_X9_copy.2.1 57 = .ok (.aload_n 0, 1) := by decide +kernel
theorem dX9_copy_58 : decode t_X9_copy.2.1 58 = .ok (.iconst 1, 1) := by decide +kernel
theorem dX9_copy_59 : decode t_X9_copy.2.1 59 = .ok (.invokevirtual 132, 3) := by decide +kernel
theorem iX9_copy_59 : wm_iv t_X9_copy t_X9_find 59 := ⟨132, wd_401, dX9_copy_59⟩
theorem dX9_copy_62 : decode t_X9_copy.2.1 62 = .ok (.ireturn, 1) := by decide +kernel
theorem dX9_copy_63 : decode t_X9_copy.2.1 63 = .ok (.aload_n 0, 1) := by decide +kernel
theorem dX9_copy_64 : decode t_X9_copy.2.1 64 = .ok (.getfield 14, 3) := by decide +kernel
theorem gX9_copy_64 : wm_gf t_X9_copy 64 9 0 := ⟨_, _, _, 14, rfl, by decide, wd_346, dX9_copy_64⟩
theorem dX9_copy_67 : decode t_X9_copy.2.1 67 = .ok (.iload_n 1, 1) := by decide +kernel
theorem dX9_copy_68 : decode t_X9_copy.2.1 68 = .ok (.iload_n 2, 1) := by decide +kernel
theorem dX9_copy_69 : decode t_X9_copy.2.1 69 = .ok (.iload 5, 2) := by decide +kernel
theorem dX9_copy_71 : decode t_X9_copy.2.1 71 = .ok (.invokevirtual 139, 3) := by decide +kernel
theorem wd_436 : Cond.methodLink RX9 139 yX5_holds ∈ lw_gd := List.mem_filter.mpr ⟨List.mem_of_getElem? (i := 436) (by decide +kernel), by decide +kernel⟩
theorem iX9_copy_71 : wm_iv t_X9_copy t_X5_holds 71 := ⟨139, wd_436, dX9_copy_71⟩
theorem dX9_copy_74 : decode t_X9_copy.2.1 74 = .ok (.ifCond .eq 18, 3) := by decide +kernel
theorem dX9_copy_77 : decode t_X9_copy.2.1 77 = .ok (.aload_n 0, 1) := by decide +kernel
theorem dX9_copy_78 : decode t_X9_copy.2.1 78 = .ok (.getfield 14, 3) := by decide +kernel
theorem gX9_copy_78 : wm_gf t_X9_copy 78 9 0 := ⟨_, _, _, 14, rfl, by decide, wd_346, dX9_copy_78⟩
theorem dX9_copy_81 : decode t_X9_copy.2.1 81 = .ok (.iload_n 3, 1) := by decide +kernel
theorem dX9_copy_82 : decode t_X9_copy.2.1 82 = .ok (.iload 4, 2) := by decide +kernel
theorem dX9_copy_84 : decode t_X9_copy.2.1 84 = .ok (.iload 5, 2) := by decide +kernel
theorem dX9_copy_86 : decode t_X9_copy.2.1 86 = .ok (.invokevirtual 139, 3) := by decide +kernel
theorem iX9_copy_86 : wm_iv t_X9_copy t_X5_holds 86 := ⟨139, wd_436, dX9_copy_86⟩
theorem dX9_copy_89 : decode t_X9_copy.2.1 89 = .ok (.ifCond .ne 9, 3) := by decide +kernel
theorem dX9_copy_92 : decode t_X9_copy.2.1 92 = .ok (.aload_n 0, 1) := by decide +kernel
theorem dX9_copy_93 : decode t_X9_copy.2.1 93 = .ok (.iconst 2, 1) := by decide +kernel
theorem dX9_copy_94 : decode t_X9_copy.2.1 94 = .ok (.invokevirtual 132, 3) := by decide +kernel
theorem iX9_copy_94 : wm_iv t_X9_copy t_X9_find 94 := ⟨132, wd_401, dX9_copy_94⟩
theorem dX9_copy_97 : decode t_X9_copy.2.1 97 = .ok (.ireturn, 1) := by decide +kernel
theorem dX9_copy_98 : decode t_X9_copy.2.1 98 = .ok (.aload_n 0, 1) := by decide +kernel
theorem dX9_copy_99 : decode t_X9_copy.2.1 99 = .ok (.getfield 14, 3) := by decide +kernel
theorem gX9_copy_99 : wm_gf t_X9_copy 99 9 0 := ⟨_, _, _, 14, rfl, by decide, wd_346, dX9_copy_99⟩
theorem dX9_copy_102 : decode t_X9_copy.2.1 102 = .ok (.iload_n 1, 1) := by decide +kernel
theorem dX9_copy_103 : decode t_X9_copy.2.1 103 = .ok (.iload_n 2, 1) := by decide +kernel
theorem dX9_copy_104 : decode t_X9_copy.2.1 104 = .ok (.iload_n 3, 1) := by decide +kernel
theorem dX9_copy_105 : decode t_X9_copy.2.1 105 = .ok (.iload 4, 2) := by decide +kernel
theorem dX9_copy_107 : decode t_X9_copy.2.1 107 = .ok (.iload 5, 2) := by decide +kernel
theorem dX9_copy_109 : decode t_X9_copy.2.1 109 = .ok (.invokevirtual 143, 3) := by decide +kernel
theorem wd_464 : Cond.methodLink RX9 143 yX5_move ∈ lw_gd := List.mem_filter.mpr ⟨List.mem_of_getElem? (i := 464) (by decide +kernel), by decide +kernel⟩
theorem iX9_copy_109 : wm_iv t_X9_copy t_X5_move 109 := ⟨143, wd_464, dX9_copy_109⟩
theorem dX9_copy_112 : decode t_X9_copy.2.1 112 = .ok (.iconst 1, 1) := by decide +kernel
theorem dX9_copy_113 : decode t_X9_copy.2.1 113 = .ok (.ireturn, 1) := by decide +kernel
theorem wd_475 : Cond.code yX9_mean cX9_mean 7 (some .int) ∈ lw_gd := List.mem_filter.mpr ⟨List.mem_of_getElem? (i := 475) (by decide +kernel), by decide +kernel⟩
theorem wd_473 : Cond.instanceMethod yX9_mean ∈ lw_gd := List.mem_filter.mpr ⟨List.mem_of_getElem? (i := 473) (by decide +kernel), by decide +kernel⟩
theorem wd_474 : Cond.selects RX9 yX9_mean yX9_mean ∈ lw_gd := List.mem_filter.mpr ⟨List.mem_of_getElem? (i := 474) (by decide +kernel), by decide +kernel⟩
theorem vX9_mean : wm_calV t_X9_mean 1 := ⟨⟨wd_475, wd_77, by decide +kernel, by decide +kernel, by decide +kernel⟩, wd_473, wd_474⟩
theorem dX9_mean_0 : decode t_X9_mean.2.1 0 = .ok (.aload_n 0, 1) := by decide +kernel
theorem dX9_mean_1 : decode t_X9_mean.2.1 1 = .ok (.aload_n 0, 1) := by decide +kernel
theorem dX9_mean_2 : decode t_X9_mean.2.1 2 = .ok (.getfield 14, 3) := by decide +kernel
theorem gX9_mean_2 : wm_gf t_X9_mean 2 9 0 := ⟨_, _, _, 14, rfl, by decide, wd_346, dX9_mean_2⟩
theorem dX9_mean_5 : decode t_X9_mean.2.1 5 = .ok (.iload_n 1, 1) := by decide +kernel
theorem dX9_mean_6 : decode t_X9_mean.2.1 6 = .ok (.invokevirtual 120, 3) := by decide +kernel
theorem iX9_mean_6 : wm_iv t_X9_mean t_X9_refusal 6 := ⟨120, wd_428, dX9_mean_6⟩
theorem dX9_mean_9 : decode t_X9_mean.2.1 9 = .ok (.istore_n 2, 1) := by decide +kernel
theorem dX9_mean_10 : decode t_X9_mean.2.1 10 = .ok (.iload_n 2, 1) := by decide +kernel
theorem dX9_mean_11 : decode t_X9_mean.2.1 11 = .ok (.ifCond .eq 5, 3) := by decide +kernel
theorem dX9_mean_14 : decode t_X9_mean.2.1 14 = .ok (.iload_n 2, 1) := by decide +kernel
theorem dX9_mean_15 : decode t_X9_mean.2.1 15 = .ok (.ireturn, 1) := by decide +kernel
theorem dX9_mean_16 : decode t_X9_mean.2.1 16 = .ok (.aload_n 0, 1) := by decide +kernel
theorem dX9_mean_17 : decode t_X9_mean.2.1 17 = .ok (.getfield 14, 3) := by decide +kernel
theorem gX9_mean_17 : wm_gf t_X9_mean 17 9 0 := ⟨_, _, _, 14, rfl, by decide, wd_346, dX9_mean_17⟩
theorem dX9_mean_20 : decode t_X9_mean.2.1 20 = .ok (.iload_n 1, 1) := by decide +kernel
theorem dX9_mean_21 : decode t_X9_mean.2.1 21 = .ok (.invokevirtual 147, 3) := by decide +kernel
theorem wd_476 : Cond.methodLink RX9 147 yX5_size ∈ lw_gd := List.mem_filter.mpr ⟨List.mem_of_getElem? (i := 476) (by decide +kernel), by decide +kernel⟩
theorem iX9_mean_21 : wm_iv t_X9_mean t_X5_size 21 := ⟨147, wd_476, dX9_mean_21⟩
theorem dX9_mean_24 : decode t_X9_mean.2.1 24 = .ok (.istore_n 3, 1) := by decide +kernel
theorem dX9_mean_25 : decode t_X9_mean.2.1 25 = .ok (.iload_n 3, 1) := by decide +kernel
theorem dX9_mean_26 : decode t_X9_mean.2.1 26 = .ok (.ifCond .gt 9, 3) := by decide +kernel
theorem dX9_mean_29 : decode t_X9_mean.2.1 29 = .ok (.aload_n 0, 1) := by decide +kernel
theorem dX9_mean_30 : decode t_X9_mean.2.1 30 = .ok (.iconst 4, 1) := by decide +kernel
theorem dX9_mean_31 : decode t_X9_mean.2.1 31 = .ok (.invokevirtual 132, 3) := by decide +kernel
theorem iX9_mean_31 : wm_iv t_X9_mean t_X9_find 31 := ⟨132, wd_401, dX9_mean_31⟩
theorem dX9_mean_34 : decode t_X9_mean.2.1 34 = .ok (.ireturn, 1) := by decide +kernel
theorem dX9_mean_35 : decode t_X9_mean.2.1 35 = .ok (.lconst 0, 1) := by decide +kernel
theorem dX9_mean_36 : decode t_X9_mean.2.1 36 = .ok (.lstore 4, 2) := by decide +kernel
theorem dX9_mean_38 : decode t_X9_mean.2.1 38 = .ok (.iconst 0, 1) := by decide +kernel
theorem dX9_mean_39 : decode t_X9_mean.2.1 39 = .ok (.istore 6, 2) := by decide +kernel
theorem dX9_mean_41 : decode t_X9_mean.2.1 41 = .ok (.iload 6, 2) := by decide +kernel
theorem dX9_mean_43 : decode t_X9_mean.2.1 43 = .ok (.iload_n 3, 1) := by decide +kernel
theorem dX9_mean_44 : decode t_X9_mean.2.1 44 = .ok (.if_icmp .ge 25, 3) := by decide +kernel
theorem dX9_mean_47 : decode t_X9_mean.2.1 47 = .ok (.lload 4, 2) := by decide +kernel
theorem dX9_mean_49 : decode t_X9_mean.2.1 49 = .ok (.aload_n 0, 1) := by decide +kernel
theorem dX9_mean_50 : decode t_X9_mean.2.1 50 = .ok (.getfield 14, 3) := by decide +kernel
theorem gX9_mean_50 : wm_gf t_X9_mean 50 9 0 := ⟨_, _, _, 14, rfl, by decide, wd_346, dX9_mean_50⟩
theorem dX9_mean_53 : decode t_X9_mean.2.1 53 = .ok (.iload_n 1, 1) := by decide +kernel
theorem dX9_mean_54 : decode t_X9_mean.2.1 54 = .ok (.iload 6, 2) := by decide +kernel
theorem dX9_mean_56 : decode t_X9_mean.2.1 56 = .ok (.invokevirtual 109, 3) := by decide +kernel
theorem iX9_mean_56 : wm_iv t_X9_mean t_X5_get 56 := ⟨109, wd_440, dX9_mean_56⟩
theorem dX9_mean_59 : decode t_X9_mean.2.1 59 = .ok (.i2l, 1) := by decide +kernel
theorem dX9_mean_60 : decode t_X9_mean.2.1 60 = .ok (.ladd, 1) := by decide +kernel
theorem dX9_mean_61 : decode t_X9_mean.2.1 61 = .ok (.lstore 4, 2) := by decide +kernel
theorem dX9_mean_63 : decode t_X9_mean.2.1 63 = .ok (.iinc 6 1, 3) := by decide +kernel
theorem dX9_mean_66 : decode t_X9_mean.2.1 66 = .ok (.goto (-25), 3) := by decide +kernel
theorem dX9_mean_69 : decode t_X9_mean.2.1 69 = .ok (.aload_n 0, 1) := by decide +kernel
theorem dX9_mean_70 : decode t_X9_mean.2.1 70 = .ok (.getfield 77, 3) := by decide +kernel
theorem gX9_mean_70 : wm_gf t_X9_mean 70 9 9 := ⟨_, _, _, 77, rfl, by decide, wd_355, dX9_mean_70⟩
theorem dX9_mean_73 : decode t_X9_mean.2.1 73 = .ok (.lload 4, 2) := by decide +kernel
theorem dX9_mean_75 : decode t_X9_mean.2.1 75 = .ok (.iload_n 3, 1) := by decide +kernel
theorem dX9_mean_76 : decode t_X9_mean.2.1 76 = .ok (.i2l, 1) := by decide +kernel
theorem dX9_mean_77 : decode t_X9_mean.2.1 77 = .ok (.ldiv, 1) := by decide +kernel
theorem dX9_mean_78 : decode t_X9_mean.2.1 78 = .ok (.l2i, 1) := by decide +kernel
theorem dX9_mean_79 : decode t_X9_mean.2.1 79 = .ok (.putfield 113, 3) := by decide +kernel
theorem gX9_mean_79 : wm_pf t_X9_mean 79 6 0 .int := ⟨_, _, _, 113, rfl, by decide, wd_325, dX9_mean_79, rfl, by decide +kernel⟩
theorem dX9_mean_82 : decode t_X9_mean.2.1 82 = .ok (.iconst 1, 1) := by decide +kernel
theorem dX9_mean_83 : decode t_X9_mean.2.1 83 = .ok (.ireturn, 1) := by decide +kernel
theorem wd_486 : Cond.code yX9_text cX9_text 3 (some .int) ∈ lw_gd := List.mem_filter.mpr ⟨List.mem_of_getElem? (i := 486) (by decide +kernel), by decide +kernel⟩
theorem wd_484 : Cond.instanceMethod yX9_text ∈ lw_gd := List.mem_filter.mpr ⟨List.mem_of_getElem? (i := 484) (by decide +kernel), by decide +kernel⟩
theorem wd_485 : Cond.selects RX9 yX9_text yX9_text ∈ lw_gd := List.mem_filter.mpr ⟨List.mem_of_getElem? (i := 485) (by decide +kernel), by decide +kernel⟩
theorem vX9_text : wm_calV t_X9_text 2 := ⟨⟨wd_486, wd_77, by decide +kernel, by decide +kernel, by decide +kernel⟩, wd_484, wd_485⟩
theorem dX9_text_0 : decode t_X9_text.2.1 0 = .ok (.aload_n 0, 1) := by decide +kernel
theorem dX9_text_1 : decode t_X9_text.2.1 1 = .ok (.aload_n 0, 1) := by decide +kernel
theorem dX9_text_2 : decode t_X9_text.2.1 2 = .ok (.getfield 18, 3) := by decide +kernel
theorem wd_347 : Cond.fieldLink RX9 18 "TurnedStones" "texts" "LTurnedStones$Table;" ∈ lw_gd := List.mem_filter.mpr ⟨List.mem_of_getElem? (i := 347) (by decide +kernel), by decide +kernel⟩
theorem gX9_text_2 : wm_gf t_X9_text 2 9 1 := ⟨_, _, _, 18, rfl, by decide, wd_347, dX9_text_2⟩
theorem dX9_text_5 : decode t_X9_text.2.1 5 = .ok (.iload_n 1, 1) := by decide +kernel
theorem dX9_text_6 : decode t_X9_text.2.1 6 = .ok (.iload_n 2, 1) := by decide +kernel
theorem dX9_text_7 : decode t_X9_text.2.1 7 = .ok (.bipush 32, 2) := by decide +kernel
theorem dX9_text_9 : decode t_X9_text.2.1 9 = .ok (.invokevirtual 101, 3) := by decide +kernel
theorem iX9_text_9 : wm_iv t_X9_text t_X9_begin 9 := ⟨101, wd_393, dX9_text_9⟩
theorem dX9_text_12 : decode t_X9_text.2.1 12 = .ok (.ireturn, 1) := by decide +kernel
theorem wd_490 : Cond.code yX9_put cX9_put 6 (some .int) ∈ lw_gd := List.mem_filter.mpr ⟨List.mem_of_getElem? (i := 490) (by decide +kernel), by decide +kernel⟩
theorem wd_488 : Cond.instanceMethod yX9_put ∈ lw_gd := List.mem_filter.mpr ⟨List.mem_of_getElem? (i := 488) (by decide +kernel), by decide +kernel⟩
theorem wd_489 : Cond.selects RX9 yX9_put yX9_put ∈ lw_gd := List.mem_filter.mpr ⟨List.mem_of_getElem? (i := 489) (by decide +kernel), by decide +kernel⟩
theorem vX9_put : wm_calV t_X9_put 3 := ⟨⟨wd_490, wd_77, by decide +kernel, by decide +kernel, by decide +kernel⟩, wd_488, wd_489⟩
theorem dX9_put_0 : decode t_X9_put.2.1 0 = .ok (.aload_n 0, 1) := by decide +kernel
theorem dX9_put_1 : decode t_X9_put.2.1 1 = .ok (.aload_n 0, 1) := by decide +kernel
theorem dX9_put_2 : decode t_X9_put.2.1 2 = .ok (.getfield 18, 3) := by decide +kernel
theorem gX9_put_2 : wm_gf t_X9_put 2 9 1 := ⟨_, _, _, 18, rfl, by decide, wd_347, dX9_put_2⟩
theorem dX9_put_5 : decode t_X9_put.2.1 5 = .ok (.iload_n 1, 1) := by decide +kernel
theorem dX9_put_6 : decode t_X9_put.2.1 6 = .ok (.iload_n 2, 1) := by decide +kernel
theorem dX9_put_7 : decode t_X9_put.2.1 7 = .ok (.invokevirtual 105, 3) := by decide +kernel
theorem iX9_put_7 : wm_iv t_X9_put t_X9_placeRefusal 7 := ⟨105, wd_424, dX9_put_7⟩
theorem dX9_put_10 : decode t_X9_put.2.1 10 = .ok (.istore 4, 2) := by decide +kernel
theorem dX9_put_12 : decode t_X9_put.2.1 12 = .ok (.iload 4, 2) := by decide +kernel
theorem dX9_put_14 : decode t_X9_put.2.1 14 = .ok (.ifCond .eq 6, 3) := by decide +kernel
theorem dX9_put_17 : decode t_X9_put.2.1 17 = .ok (.iload 4, 2) := by decide +kernel
theorem dX9_put_19 : decode t_X9_put.2.1 19 = .ok (.ireturn, 1) := by decide +kernel
theorem dX9_put_20 : decode t_X9_put.2.1 20 = .ok (.aload_n 0, 1) := by decide +kernel
theorem dX9_put_21 : decode t_X9_put.2.1 21 = .ok (.getfield 18, 3) := by decide +kernel
theorem gX9_put_21 : wm_gf t_X9_put 21 9 1 := ⟨_, _, _, 18, rfl, by decide, wd_347, dX9_put_21⟩
theorem dX9_put_24 : decode t_X9_put.2.1 24 = .ok (.iload_n 1, 1) := by decide +kernel
theorem dX9_put_25 : decode t_X9_put.2.1 25 = .ok (.iload_n 2, 1) := by decide +kernel
theorem dX9_put_26 : decode t_X9_put.2.1 26 = .ok (.invokevirtual 109, 3) := by decide +kernel
theorem iX9_put_26 : wm_iv t_X9_put t_X5_get 26 := ⟨109, wd_440, dX9_put_26⟩
theorem dX9_put_29 : decode t_X9_put.2.1 29 = .ok (.istore 5, 2) := by decide +kernel
theorem dX9_put_31 : decode t_X9_put.2.1 31 = .ok (.aload_n 0, 1) := by decide +kernel
theorem dX9_put_32 : decode t_X9_put.2.1 32 = .ok (.getfield 18, 3) := by decide +kernel
theorem gX9_put_32 : wm_gf t_X9_put 32 9 1 := ⟨_, _, _, 18, rfl, by decide, wd_347, dX9_put_32⟩
theorem dX9_put_35 : decode t_X9_put.2.1 35 = .ok (.iload_n 1, 1) := by decide +kernel
theorem dX9_put_36 : decode t_X9_put.2.1 36 = .ok (.iload_n 2, 1) := by decide +kernel
theorem dX9_put_37 : decode t_X9_put.2.1 37 = .ok (.iload_n 3, 1) := by decide +kernel
theorem dX9_put_38 : decode t_X9_put.2.1 38 = .ok (.i2b, 1) := by decide +kernel
theorem dX9_put_39 : decode t_X9_put.2.1 39 = .ok (.invokevirtual 116, 3) := by decide +kernel
theorem iX9_put_39 : wm_iv t_X9_put t_X5_set 39 := ⟨116, wd_444, dX9_put_39⟩
theorem dX9_put_42 : decode t_X9_put.2.1 42 = .ok (.iload 5, 2) := by decide +kernel
theorem dX9_put_44 : decode t_X9_put.2.1 44 = .ok (.sipush 1000, 3) := by decide +kernel
theorem dX9_put_47 : decode t_X9_put.2.1 47 = .ok (.iadd, 1) := by decide +kernel
theorem dX9_put_48 : decode t_X9_put.2.1 48 = .ok (.ireturn, 1) := by decide +kernel
theorem wd_494 : Cond.code yX9_fault cX9_fault 3 (some .int) ∈ lw_gd := List.mem_filter.mpr ⟨List.mem_of_getElem? (i := 494) (by decide +kernel), by decide +kernel⟩
theorem wd_492 : Cond.instanceMethod yX9_fault ∈ lw_gd := List.mem_filter.mpr ⟨List.mem_of_getElem? (i := 492) (by decide +kernel), by decide +kernel⟩
theorem wd_493 : Cond.selects RX9 yX9_fault yX9_fault ∈ lw_gd := List.mem_filter.mpr ⟨List.mem_of_getElem? (i := 493) (by decide +kernel), by decide +kernel⟩
theorem vX9_fault : wm_calV t_X9_fault 1 := ⟨⟨wd_494, wd_77, by decide +kernel, by decide +kernel, by decide +kernel⟩, wd_492, wd_493⟩
theorem dX9_fault_0 : decode t_X9_fault.2.1 0 = .ok (.aload_n 0, 1) := by decide +kernel
theorem dX9_fault_1 : decode t_X9_fault.2.1 1 = .ok (.aload_n 0, 1) := by decide +kernel
theorem dX9_fault_2 : decode t_X9_fault.2.1 2 = .ok (.getfield 18, 3) := by decide +kernel
theorem gX9_fault_2 : wm_gf t_X9_fault 2 9 1 := ⟨_, _, _, 18, rfl, by decide, wd_347, dX9_fault_2⟩
theorem dX9_fault_5 : decode t_X9_fault.2.1 5 = .ok (.iload_n 1, 1) := by decide +kernel
theorem dX9_fault_6 : decode t_X9_fault.2.1 6 = .ok (.invokevirtual 120, 3) := by decide +kernel
theorem iX9_fault_6 : wm_iv t_X9_fault t_X9_refusal 6 := ⟨120, wd_428, dX9_fault_6⟩
theorem dX9_fault_9 : decode t_X9_fault.2.1 9 = .ok (.istore_n 2, 1) := by decide +kernel
theorem dX9_fault_10 : decode t_X9_fault.2.1 10 = .ok (.iload_n 2, 1) := by decide +kernel
theorem dX9_fault_11 : decode t_X9_fault.2.1 11 = .ok (.ifCond .eq 7, 3) := by decide +kernel
theorem dX9_fault_14 : decode t_X9_fault.2.1 14 = .ok (.iload_n 2, 1) := by decide +kernel
theorem dX9_fault_15 : decode t_X9_fault.2.1 15 = .ok (.goto 11, 3) := by decide +kernel
theorem dX9_fault_18 : decode t_X9_fault.2.1 18 = .ok (.aload_n 0, 1) := by decide +kernel
theorem dX9_fault_19 : decode t_X9_fault.2.1 19 = .ok (.getfield 36, 3) := by decide +kernel
theorem wd_350 : Cond.fieldLink RX9 36 "TurnedStones" "reader" "LTurnedStones$TownReader;" ∈ lw_gd := List.mem_filter.mpr ⟨List.mem_of_getElem? (i := 350) (by decide +kernel), by decide +kernel⟩
theorem gX9_fault_19 : wm_gf t_X9_fault 19 9 4 := ⟨_, _, _, 36, rfl, by decide, wd_350, dX9_fault_19⟩
theorem dX9_fault_22 : decode t_X9_fault.2.1 22 = .ok (.iload_n 1, 1) := by decide +kernel
theorem dX9_fault_23 : decode t_X9_fault.2.1 23 = .ok (.invokevirtual 150, 3) := by decide +kernel
theorem wd_495 : Cond.methodLink RX9 150 yX7_faultOf ∈ lw_gd := List.mem_filter.mpr ⟨List.mem_of_getElem? (i := 495) (by decide +kernel), by decide +kernel⟩
theorem iX9_fault_23 : wm_iv t_X9_fault t_X7_faultOf 23 := ⟨150, wd_495, dX9_fault_23⟩
theorem dX9_fault_26 : decode t_X9_fault.2.1 26 = .ok (.ireturn, 1) := by decide +kernel
theorem wd_547 : Cond.code yX9_town cX9_town 3 (some .int) ∈ lw_gd := List.mem_filter.mpr ⟨List.mem_of_getElem? (i := 547) (by decide +kernel), by decide +kernel⟩
theorem wd_545 : Cond.instanceMethod yX9_town ∈ lw_gd := List.mem_filter.mpr ⟨List.mem_of_getElem? (i := 545) (by decide +kernel), by decide +kernel⟩
theorem wd_546 : Cond.selects RX9 yX9_town yX9_town ∈ lw_gd := List.mem_filter.mpr ⟨List.mem_of_getElem? (i := 546) (by decide +kernel), by decide +kernel⟩
theorem vX9_town : wm_calV t_X9_town 1 := ⟨⟨wd_547, wd_77, by decide +kernel, by decide +kernel, by decide +kernel⟩, wd_545, wd_546⟩
theorem dX9_town_0 : decode t_X9_town.2.1 0 = .ok (.aload_n 0, 1) := by decide +kernel
theorem dX9_town_1 : decode t_X9_town.2.1 1 = .ok (.aload_n 0, 1) := by decide +kernel
theorem dX9_town_2 : decode t_X9_town.2.1 2 = .ok (.getfield 18, 3) := by decide +kernel
theorem gX9_town_2 : wm_gf t_X9_town 2 9 1 := ⟨_, _, _, 18, rfl, by decide, wd_347, dX9_town_2⟩
theorem dX9_town_5 : decode t_X9_town.2.1 5 = .ok (.iload_n 1, 1) := by decide +kernel
theorem dX9_town_6 : decode t_X9_town.2.1 6 = .ok (.invokevirtual 120, 3) := by decide +kernel
theorem iX9_town_6 : wm_iv t_X9_town t_X9_refusal 6 := ⟨120, wd_428, dX9_town_6⟩
theorem dX9_town_9 : decode t_X9_town.2.1 9 = .ok (.istore_n 2, 1) := by decide +kernel
theorem dX9_town_10 : decode t_X9_town.2.1 10 = .ok (.iload_n 2, 1) := by decide +kernel
theorem dX9_town_11 : decode t_X9_town.2.1 11 = .ok (.ifCond .eq 5, 3) := by decide +kernel
theorem dX9_town_14 : decode t_X9_town.2.1 14 = .ok (.iload_n 2, 1) := by decide +kernel
theorem dX9_town_15 : decode t_X9_town.2.1 15 = .ok (.ireturn, 1) := by decide +kernel
theorem dX9_town_16 : decode t_X9_town.2.1 16 = .ok (.aload_n 0, 1) := by decide +kernel
theorem dX9_town_17 : decode t_X9_town.2.1 17 = .ok (.getfield 36, 3) := by decide +kernel
theorem gX9_town_17 : wm_gf t_X9_town 17 9 4 := ⟨_, _, _, 36, rfl, by decide, wd_350, dX9_town_17⟩
theorem dX9_town_20 : decode t_X9_town.2.1 20 = .ok (.iload_n 1, 1) := by decide +kernel
theorem dX9_town_21 : decode t_X9_town.2.1 21 = .ok (.invokevirtual 150, 3) := by decide +kernel
theorem iX9_town_21 : wm_iv t_X9_town t_X7_faultOf 21 := ⟨150, wd_495, dX9_town_21⟩
theorem dX9_town_24 : decode t_X9_town.2.1 24 = .ok (.bipush (-9), 2) := by decide +kernel
theorem dX9_town_26 : decode t_X9_town.2.1 26 = .ok (.if_icmp .eq 6, 3) := by decide +kernel
theorem dX9_town_29 : decode t_X9_town.2.1 29 = .ok (.bipush (-4), 2) := by decide +kernel
theorem dX9_town_31 : decode t_X9_town.2.1 31 = .ok (.ireturn, 1) := by decide +kernel
theorem dX9_town_32 : decode t_X9_town.2.1 32 = .ok (.aload_n 0, 1) := by decide +kernel
theorem dX9_town_33 : decode t_X9_town.2.1 33 = .ok (.getfield 24, 3) := by decide +kernel
theorem wd_348 : Cond.fieldLink RX9 24 "TurnedStones" "stones" "LTurnedStones$Stones;" ∈ lw_gd := List.mem_filter.mpr ⟨List.mem_of_getElem? (i := 348) (by decide +kernel), by decide +kernel⟩
theorem gX9_town_33 : wm_gf t_X9_town 33 9 2 := ⟨_, _, _, 24, rfl, by decide, wd_348, dX9_town_33⟩
theorem dX9_town_36 : decode t_X9_town.2.1 36 = .ok (.aload_n 0, 1) := by decide +kernel
theorem dX9_town_37 : decode t_X9_town.2.1 37 = .ok (.getfield 28, 3) := by decide +kernel
theorem wd_349 : Cond.fieldLink RX9 28 "TurnedStones" "draft" "LTurnedStones$Stones;" ∈ lw_gd := List.mem_filter.mpr ⟨List.mem_of_getElem? (i := 349) (by decide +kernel), by decide +kernel⟩
theorem gX9_town_37 : wm_gf t_X9_town 37 9 3 := ⟨_, _, _, 28, rfl, by decide, wd_349, dX9_town_37⟩
theorem dX9_town_40 : decode t_X9_town.2.1 40 = .ok (.invokevirtual 153, 3) := by decide +kernel
theorem wd_548 : Cond.methodLink RX9 153 yX4_take ∈ lw_gd := List.mem_filter.mpr ⟨List.mem_of_getElem? (i := 548) (by decide +kernel), by decide +kernel⟩
theorem iX9_town_40 : wm_iv t_X9_town t_X4_take 40 := ⟨153, wd_548, dX9_town_40⟩
theorem dX9_town_43 : decode t_X9_town.2.1 43 = .ok (.aload_n 0, 1) := by decide +kernel
theorem dX9_town_44 : decode t_X9_town.2.1 44 = .ok (.iconst 0, 1) := by decide +kernel
theorem dX9_town_45 : decode t_X9_town.2.1 45 = .ok (.putfield 88, 3) := by decide +kernel
theorem wd_358 : Cond.fieldLink RX9 88 "TurnedStones" "nowState" "I" ∈ lw_gd := List.mem_filter.mpr ⟨List.mem_of_getElem? (i := 358) (by decide +kernel), by decide +kernel⟩
theorem gX9_town_45 : wm_pf t_X9_town 45 9 12 .int := ⟨_, _, _, 88, rfl, by decide, wd_358, dX9_town_45, rfl, by decide +kernel⟩
theorem dX9_town_48 : decode t_X9_town.2.1 48 = .ok (.aload_n 0, 1) := by decide +kernel
theorem dX9_town_49 : decode t_X9_town.2.1 49 = .ok (.iconst 0, 1) := by decide +kernel
theorem dX9_town_50 : decode t_X9_town.2.1 50 = .ok (.putfield 92, 3) := by decide +kernel
theorem wd_359 : Cond.fieldLink RX9 92 "TurnedStones" "nowYear" "I" ∈ lw_gd := List.mem_filter.mpr ⟨List.mem_of_getElem? (i := 359) (by decide +kernel), by decide +kernel⟩
theorem gX9_town_50 : wm_pf t_X9_town 50 9 13 .int := ⟨_, _, _, 92, rfl, by decide, wd_359, dX9_town_50, rfl, by decide +kernel⟩
theorem dX9_town_53 : decode t_X9_town.2.1 53 = .ok (.aload_n 0, 1) := by decide +kernel
theorem dX9_town_54 : decode t_X9_town.2.1 54 = .ok (.getfield 85, 3) := by decide +kernel
theorem wd_357 : Cond.fieldLink RX9 85 "TurnedStones" "keptYears" "[I" ∈ lw_gd := List.mem_filter.mpr ⟨List.mem_of_getElem? (i := 357) (by decide +kernel), by decide +kernel⟩
theorem gX9_town_54 : wm_gf t_X9_town 54 9 11 := ⟨_, _, _, 85, rfl, by decide, wd_357, dX9_town_54⟩
theorem dX9_town_57 : decode t_X9_town.2.1 57 = .ok (.iconst (-1), 1) := by decide +kernel
theorem dX9_town_58 : decode t_X9_town.2.1 58 = .ok (.invokestatic 95, 3) := by decide +kernel
theorem wd_345 : Cond.methodLink RX9 95 yJ7_fill_53178 ∈ lw_gd := List.mem_filter.mpr ⟨List.mem_of_getElem? (i := 345) (by decide +kernel), by decide +kernel⟩
theorem iX9_town_58 : wm_is t_X9_town t_J7_fill_53178 58 := ⟨95, wd_345, dX9_town_58⟩
theorem dX9_town_61 : decode t_X9_town.2.1 61 = .ok (.aload_n 0, 1) := by decide +kernel
theorem dX9_town_62 : decode t_X9_town.2.1 62 = .ok (.getfield 61, 3) := by decide +kernel
theorem wd_353 : Cond.fieldLink RX9 61 "TurnedStones" "records" "LTurnedStones$Records;" ∈ lw_gd := List.mem_filter.mpr ⟨List.mem_of_getElem? (i := 353) (by decide +kernel), by decide +kernel⟩
theorem gX9_town_62 : wm_gf t_X9_town 62 9 7 := ⟨_, _, _, 61, rfl, by decide, wd_353, dX9_town_62⟩
theorem dX9_town_65 : decode t_X9_town.2.1 65 = .ok (.iconst 0, 1) := by decide +kernel
theorem dX9_town_66 : decode t_X9_town.2.1 66 = .ok (.invokevirtual 156, 3) := by decide +kernel
theorem wd_553 : Cond.methodLink RX9 156 yX2_dropFrom ∈ lw_gd := List.mem_filter.mpr ⟨List.mem_of_getElem? (i := 553) (by decide +kernel), by decide +kernel⟩
theorem iX9_town_66 : wm_iv t_X9_town t_X2_dropFrom 66 := ⟨156, wd_553, dX9_town_66⟩
theorem dX9_town_69 : decode t_X9_town.2.1 69 = .ok (.aload_n 0, 1) := by decide +kernel
theorem dX9_town_70 : decode t_X9_town.2.1 70 = .ok (.getfield 45, 3) := by decide +kernel
theorem wd_351 : Cond.fieldLink RX9 45 "TurnedStones" "book" "LTurnedStones$LawBook;" ∈ lw_gd := List.mem_filter.mpr ⟨List.mem_of_getElem? (i := 351) (by decide +kernel), by decide +kernel⟩
theorem gX9_town_70 : wm_gf t_X9_town 70 9 5 := ⟨_, _, _, 45, rfl, by decide, wd_351, dX9_town_70⟩
theorem dX9_town_73 : decode t_X9_town.2.1 73 = .ok (.invokevirtual 159, 3) := by decide +kernel
theorem wd_557 : Cond.methodLink RX9 159 yX0_rebuildAll ∈ lw_gd := List.mem_filter.mpr ⟨List.mem_of_getElem? (i := 557) (by decide +kernel), by decide +kernel⟩
theorem iX9_town_73 : wm_iv t_X9_town t_X0_rebuildAll 73 := ⟨159, wd_557, dX9_town_73⟩
theorem dX9_town_76 : decode t_X9_town.2.1 76 = .ok (.aload_n 0, 1) := by decide +kernel
theorem dX9_town_77 : decode t_X9_town.2.1 77 = .ok (.getfield 24, 3) := by decide +kernel
theorem gX9_town_77 : wm_gf t_X9_town 77 9 2 := ⟨_, _, _, 24, rfl, by decide, wd_348, dX9_town_77⟩
theorem dX9_town_80 : decode t_X9_town.2.1 80 = .ok (.invokevirtual 162, 3) := by decide +kernel
theorem wd_632 : Cond.methodLink RX9 162 yX4_number ∈ lw_gd := List.mem_filter.mpr ⟨List.mem_of_getElem? (i := 632) (by decide +kernel), by decide +kernel⟩
theorem iX9_town_80 : wm_iv t_X9_town t_X4_number 80 := ⟨162, wd_632, dX9_town_80⟩
theorem dX9_town_83 : decode t_X9_town.2.1 83 = .ok (.ireturn, 1) := by decide +kernel
theorem wd_636 : Cond.code yX9_stone cX9_stone 3 (some .int) ∈ lw_gd := List.mem_filter.mpr ⟨List.mem_of_getElem? (i := 636) (by decide +kernel), by decide +kernel⟩
theorem wd_634 : Cond.instanceMethod yX9_stone ∈ lw_gd := List.mem_filter.mpr ⟨List.mem_of_getElem? (i := 634) (by decide +kernel), by decide +kernel⟩
theorem wd_635 : Cond.selects RX9 yX9_stone yX9_stone ∈ lw_gd := List.mem_filter.mpr ⟨List.mem_of_getElem? (i := 635) (by decide +kernel), by decide +kernel⟩
theorem vX9_stone : wm_calV t_X9_stone 2 := ⟨⟨wd_636, wd_77, by decide +kernel, by decide +kernel, by decide +kernel⟩, wd_634, wd_635⟩
theorem dX9_stone_0 : decode t_X9_stone.2.1 0 = .ok (.aload_n 0, 1) := by decide +kernel
theorem dX9_stone_1 : decode t_X9_stone.2.1 1 = .ok (.getfield 24, 3) := by decide +kernel
theorem gX9_stone_1 : wm_gf t_X9_stone 1 9 2 := ⟨_, _, _, 24, rfl, by decide, wd_348, dX9_stone_1⟩
theorem dX9_stone_4 : decode t_X9_stone.2.1 4 = .ok (.iload_n 1, 1) := by decide +kernel
theorem dX9_stone_5 : decode t_X9_stone.2.1 5 = .ok (.invokevirtual 166, 3) := by decide +kernel
theorem wd_637 : Cond.methodLink RX9 166 yX4_knows ∈ lw_gd := List.mem_filter.mpr ⟨List.mem_of_getElem? (i := 637) (by decide +kernel), by decide +kernel⟩
theorem iX9_stone_5 : wm_iv t_X9_stone t_X4_knows 5 := ⟨166, wd_637, dX9_stone_5⟩
theorem dX9_stone_8 : decode t_X9_stone.2.1 8 = .ok (.ifCond .eq 12, 3) := by decide +kernel
theorem dX9_stone_11 : decode t_X9_stone.2.1 11 = .ok (.iload_n 2, 1) := by decide +kernel
theorem dX9_stone_12 : decode t_X9_stone.2.1 12 = .ok (.ifCond .lt 8, 3) := by decide +kernel
theorem dX9_stone_15 : decode t_X9_stone.2.1 15 = .ok (.iload_n 2, 1) := by decide +kernel
theorem dX9_stone_16 : decode t_X9_stone.2.1 16 = .ok (.iconst 5, 1) := by decide +kernel
theorem dX9_stone_17 : decode t_X9_stone.2.1 17 = .ok (.if_icmp .le 5, 3) := by decide +kernel
theorem dX9_stone_20 : decode t_X9_stone.2.1 20 = .ok (.iconst (-1), 1) := by decide +kernel
theorem dX9_stone_21 : decode t_X9_stone.2.1 21 = .ok (.ireturn, 1) := by decide +kernel
theorem dX9_stone_22 : decode t_X9_stone.2.1 22 = .ok (.aload_n 0, 1) := by decide +kernel
theorem dX9_stone_23 : decode t_X9_stone.2.1 23 = .ok (.getfield 77, 3) := by decide +kernel
theorem gX9_stone_23 : wm_gf t_X9_stone 23 9 9 := ⟨_, _, _, 77, rfl, by decide, wd_355, dX9_stone_23⟩
theorem dX9_stone_26 : decode t_X9_stone.2.1 26 = .ok (.aload_n 0, 1) := by decide +kernel
theorem dX9_stone_27 : decode t_X9_stone.2.1 27 = .ok (.iload_n 1, 1) := by decide +kernel
theorem dX9_stone_28 : decode t_X9_stone.2.1 28 = .ok (.iload_n 2, 1) := by decide +kernel
theorem dX9_stone_29 : decode t_X9_stone.2.1 29 = .ok (.invokevirtual 167, 3) := by decide +kernel
theorem wd_638 : Cond.methodLink RX9 167 yX9_stoneTells ∈ lw_gd := List.mem_filter.mpr ⟨List.mem_of_getElem? (i := 638) (by decide +kernel), by decide +kernel⟩
theorem iX9_stone_29 : wm_iv t_X9_stone t_X9_stoneTells 29 := ⟨167, wd_638, dX9_stone_29⟩
theorem dX9_stone_32 : decode t_X9_stone.2.1 32 = .ok (.putfield 113, 3) := by decide +kernel
theorem gX9_stone_32 : wm_pf t_X9_stone 32 6 0 .int := ⟨_, _, _, 113, rfl, by decide, wd_325, dX9_stone_32, rfl, by decide +kernel⟩
theorem dX9_stone_35 : decode t_X9_stone.2.1 35 = .ok (.iconst 1, 1) := by decide +kernel
theorem dX9_stone_36 : decode t_X9_stone.2.1 36 = .ok (.ireturn, 1) := by decide +kernel
theorem wd_648 : Cond.code yX9_mark cX9_mark 3 (some .int) ∈ lw_gd := List.mem_filter.mpr ⟨List.mem_of_getElem? (i := 648) (by decide +kernel), by decide +kernel⟩
theorem wd_646 : Cond.instanceMethod yX9_mark ∈ lw_gd := List.mem_filter.mpr ⟨List.mem_of_getElem? (i := 646) (by decide +kernel), by decide +kernel⟩
theorem wd_647 : Cond.selects RX9 yX9_mark yX9_mark ∈ lw_gd := List.mem_filter.mpr ⟨List.mem_of_getElem? (i := 647) (by decide +kernel), by decide +kernel⟩
theorem vX9_mark : wm_calV t_X9_mark 2 := ⟨⟨wd_648, wd_77, by decide +kernel, by decide +kernel, by decide +kernel⟩, wd_646, wd_647⟩
theorem dX9_mark_0 : decode t_X9_mark.2.1 0 = .ok (.aload_n 0, 1) := by decide +kernel
theorem dX9_mark_1 : decode t_X9_mark.2.1 1 = .ok (.getfield 24, 3) := by decide +kernel
theorem gX9_mark_1 : wm_gf t_X9_mark 1 9 2 := ⟨_, _, _, 24, rfl, by decide, wd_348, dX9_mark_1⟩
theorem dX9_mark_4 : decode t_X9_mark.2.1 4 = .ok (.iload_n 1, 1) := by decide +kernel
theorem dX9_mark_5 : decode t_X9_mark.2.1 5 = .ok (.invokevirtual 166, 3) := by decide +kernel
theorem iX9_mark_5 : wm_iv t_X9_mark t_X4_knows 5 := ⟨166, wd_637, dX9_mark_5⟩
theorem dX9_mark_8 : decode t_X9_mark.2.1 8 = .ok (.ifCond .eq 13, 3) := by decide +kernel
theorem dX9_mark_11 : decode t_X9_mark.2.1 11 = .ok (.iload_n 2, 1) := by decide +kernel
theorem dX9_mark_12 : decode t_X9_mark.2.1 12 = .ok (.iconst 1, 1) := by decide +kernel
theorem dX9_mark_13 : decode t_X9_mark.2.1 13 = .ok (.if_icmp .lt 8, 3) := by decide +kernel
theorem dX9_mark_16 : decode t_X9_mark.2.1 16 = .ok (.iload_n 2, 1) := by decide +kernel
theorem dX9_mark_17 : decode t_X9_mark.2.1 17 = .ok (.iconst 5, 1) := by decide +kernel
theorem dX9_mark_18 : decode t_X9_mark.2.1 18 = .ok (.if_icmp .le 5, 3) := by decide +kernel
theorem dX9_mark_21 : decode t_X9_mark.2.1 21 = .ok (.iconst (-1), 1) := by decide +kernel
theorem dX9_mark_22 : decode t_X9_mark.2.1 22 = .ok (.ireturn, 1) := by decide +kernel
theorem dX9_mark_23 : decode t_X9_mark.2.1 23 = .ok (.aload_n 0, 1) := by decide +kernel
theorem dX9_mark_24 : decode t_X9_mark.2.1 24 = .ok (.getfield 24, 3) := by decide +kernel
theorem gX9_mark_24 : wm_gf t_X9_mark 24 9 2 := ⟨_, _, _, 24, rfl, by decide, wd_348, dX9_mark_24⟩
theorem dX9_mark_27 : decode t_X9_mark.2.1 27 = .ok (.iload_n 1, 1) := by decide +kernel
theorem dX9_mark_28 : decode t_X9_mark.2.1 28 = .ok (.iload_n 2, 1) := by decide +kernel
theorem dX9_mark_29 : decode t_X9_mark.2.1 29 = .ok (.invokevirtual 170, 3) := by decide +kernel
theorem wd_649 : Cond.methodLink RX9 170 yX4_isOf ∈ lw_gd := List.mem_filter.mpr ⟨List.mem_of_getElem? (i := 649) (by decide +kernel), by decide +kernel⟩
theorem iX9_mark_29 : wm_iv t_X9_mark t_X4_isOf 29 := ⟨170, wd_649, dX9_mark_29⟩
theorem dX9_mark_32 : decode t_X9_mark.2.1 32 = .ok (.ifCond .ne 9, 3) := by decide +kernel
theorem dX9_mark_35 : decode t_X9_mark.2.1 35 = .ok (.aload_n 0, 1) := by decide +kernel
theorem dX9_mark_36 : decode t_X9_mark.2.1 36 = .ok (.iconst 3, 1) := by decide +kernel
theorem dX9_mark_37 : decode t_X9_mark.2.1 37 = .ok (.invokevirtual 132, 3) := by decide +kernel
theorem iX9_mark_37 : wm_iv t_X9_mark t_X9_find 37 := ⟨132, wd_401, dX9_mark_37⟩
theorem dX9_mark_40 : decode t_X9_mark.2.1 40 = .ok (.ireturn, 1) := by decide +kernel
theorem dX9_mark_41 : decode t_X9_mark.2.1 41 = .ok (.iload_n 2, 1) := by decide +kernel
theorem dX9_mark_42 : decode t_X9_mark.2.1 42 = .ok (.tableswitch 83 1 4 #[30, 40, 48, 58], 30) := by decide +kernel
theorem dX9_mark_72 : decode t_X9_mark.2.1 72 = .ok (.aload_n 0, 1) := by decide +kernel
theorem dX9_mark_73 : decode t_X9_mark.2.1 73 = .ok (.getfield 24, 3) := by decide +kernel
theorem gX9_mark_73 : wm_gf t_X9_mark 73 9 2 := ⟨_, _, _, 24, rfl, by decide, wd_348, dX9_mark_73⟩
theorem dX9_mark_76 : decode t_X9_mark.2.1 76 = .ok (.getfield 174, 3) := by decide +kernel
theorem wd_145 : Cond.fieldLink RX9 174 "TurnedStones$Stones" "sides" "[I" ∈ lw_gd := List.mem_filter.mpr ⟨List.mem_of_getElem? (i := 145) (by decide +kernel), by decide +kernel⟩
theorem gX9_mark_76 : wm_gf t_X9_mark 76 4 4 := ⟨_, _, _, 174, rfl, by decide, wd_145, dX9_mark_76⟩
theorem dX9_mark_79 : decode t_X9_mark.2.1 79 = .ok (.iload_n 1, 1) := by decide +kernel
theorem dX9_mark_80 : decode t_X9_mark.2.1 80 = .ok (.iaload, 1) := by decide +kernel
theorem dX9_mark_81 : decode t_X9_mark.2.1 81 = .ok (.ireturn, 1) := by decide +kernel
theorem dX9_mark_82 : decode t_X9_mark.2.1 82 = .ok (.aload_n 0, 1) := by decide +kernel
theorem dX9_mark_83 : decode t_X9_mark.2.1 83 = .ok (.getfield 24, 3) := by decide +kernel
theorem gX9_mark_83 : wm_gf t_X9_mark 83 9 2 := ⟨_, _, _, 24, rfl, by decide, wd_348, dX9_mark_83⟩
theorem dX9_mark_86 : decode t_X9_mark.2.1 86 = .ok (.invokevirtual 177, 3) := by decide +kernel
theorem wd_650 : Cond.methodLink RX9 177 yX4_sharedStreets ∈ lw_gd := List.mem_filter.mpr ⟨List.mem_of_getElem? (i := 650) (by decide +kernel), by decide +kernel⟩
theorem iX9_mark_86 : wm_iv t_X9_mark t_X4_sharedStreets 86 := ⟨177, wd_650, dX9_mark_86⟩
theorem dX9_mark_89 : decode t_X9_mark.2.1 89 = .ok (.ireturn, 1) := by decide +kernel
theorem dX9_mark_90 : decode t_X9_mark.2.1 90 = .ok (.aload_n 0, 1) := by decide +kernel
theorem dX9_mark_91 : decode t_X9_mark.2.1 91 = .ok (.getfield 24, 3) := by decide +kernel
theorem gX9_mark_91 : wm_gf t_X9_mark 91 9 2 := ⟨_, _, _, 24, rfl, by decide, wd_348, dX9_mark_91⟩
theorem dX9_mark_94 : decode t_X9_mark.2.1 94 = .ok (.iload_n 1, 1) := by decide +kernel
theorem dX9_mark_95 : decode t_X9_mark.2.1 95 = .ok (.iconst 5, 1) := by decide +kernel
theorem dX9_mark_96 : decode t_X9_mark.2.1 96 = .ok (.invokevirtual 180, 3) := by decide +kernel
theorem wd_654 : Cond.methodLink RX9 180 yX4_unlikeWords ∈ lw_gd := List.mem_filter.mpr ⟨List.mem_of_getElem? (i := 654) (by decide +kernel), by decide +kernel⟩
theorem iX9_mark_96 : wm_iv t_X9_mark t_X4_unlikeWords 96 := ⟨180, wd_654, dX9_mark_96⟩
theorem dX9_mark_99 : decode t_X9_mark.2.1 99 = .ok (.ireturn, 1) := by decide +kernel
theorem dX9_mark_100 : decode t_X9_mark.2.1 100 = .ok (.aload_n 0, 1) := by decide +kernel
theorem dX9_mark_101 : decode t_X9_mark.2.1 101 = .ok (.getfield 24, 3) := by decide +kernel
theorem gX9_mark_101 : wm_gf t_X9_mark 101 9 2 := ⟨_, _, _, 24, rfl, by decide, wd_348, dX9_mark_101⟩
theorem dX9_mark_104 : decode t_X9_mark.2.1 104 = .ok (.iload_n 1, 1) := by decide +kernel
theorem dX9_mark_105 : decode t_X9_mark.2.1 105 = .ok (.bipush 15, 2) := by decide +kernel
theorem dX9_mark_107 : decode t_X9_mark.2.1 107 = .ok (.iconst 1, 1) := by decide +kernel
theorem dX9_mark_108 : decode t_X9_mark.2.1 108 = .ok (.aload_n 0, 1) := by decide +kernel
theorem dX9_mark_109 : decode t_X9_mark.2.1 109 = .ok (.getfield 24, 3) := by decide +kernel
theorem gX9_mark_109 : wm_gf t_X9_mark 109 9 2 := ⟨_, _, _, 24, rfl, by decide, wd_348, dX9_mark_109⟩
theorem dX9_mark_112 : decode t_X9_mark.2.1 112 = .ok (.getfield 174, 3) := by decide +kernel
theorem gX9_mark_112 : wm_gf t_X9_mark 112 4 4 := ⟨_, _, _, 174, rfl, by decide, wd_145, dX9_mark_112⟩
theorem dX9_mark_115 : decode t_X9_mark.2.1 115 = .ok (.iload_n 1, 1) := by decide +kernel
theorem dX9_mark_116 : decode t_X9_mark.2.1 116 = .ok (.iaload, 1) := by decide +kernel
theorem dX9_mark_117 : decode t_X9_mark.2.1 117 = .ok (.ishl, 1) := by decide +kernel
theorem dX9_mark_118 : decode t_X9_mark.2.1 118 = .ok (.iconst (-1), 1) := by decide +kernel
theorem dX9_mark_119 : decode t_X9_mark.2.1 119 = .ok (.ixor, 1) := by decide +kernel
theorem dX9_mark_120 : decode t_X9_mark.2.1 120 = .ok (.iand, 1) := by decide +kernel
theorem dX9_mark_121 : decode t_X9_mark.2.1 121 = .ok (.invokevirtual 180, 3) := by decide +kernel
theorem iX9_mark_121 : wm_iv t_X9_mark t_X4_unlikeWords 121 := ⟨180, wd_654, dX9_mark_121⟩
theorem dX9_mark_124 : decode t_X9_mark.2.1 124 = .ok (.ireturn, 1) := by decide +kernel
theorem dX9_mark_125 : decode t_X9_mark.2.1 125 = .ok (.aload_n 0, 1) := by decide +kernel
theorem dX9_mark_126 : decode t_X9_mark.2.1 126 = .ok (.getfield 24, 3) := by decide +kernel
theorem gX9_mark_126 : wm_gf t_X9_mark 126 9 2 := ⟨_, _, _, 24, rfl, by decide, wd_348, dX9_mark_126⟩
theorem dX9_mark_129 : decode t_X9_mark.2.1 129 = .ok (.iload_n 1, 1) := by decide +kernel
theorem dX9_mark_130 : decode t_X9_mark.2.1 130 = .ok (.invokevirtual 183, 3) := by decide +kernel
theorem wd_664 : Cond.methodLink RX9 183 yX4_rowOf ∈ lw_gd := List.mem_filter.mpr ⟨List.mem_of_getElem? (i := 664) (by decide +kernel), by decide +kernel⟩
theorem iX9_mark_130 : wm_iv t_X9_mark t_X4_rowOf 130 := ⟨183, wd_664, dX9_mark_130⟩
theorem dX9_mark_133 : decode t_X9_mark.2.1 133 = .ok (.ireturn, 1) := by decide +kernel
theorem wd_671 : Cond.code yX9_law cX9_law 5 (some .int) ∈ lw_gd := List.mem_filter.mpr ⟨List.mem_of_getElem? (i := 671) (by decide +kernel), by decide +kernel⟩
theorem wd_669 : Cond.instanceMethod yX9_law ∈ lw_gd := List.mem_filter.mpr ⟨List.mem_of_getElem? (i := 669) (by decide +kernel), by decide +kernel⟩
theorem wd_670 : Cond.selects RX9 yX9_law yX9_law ∈ lw_gd := List.mem_filter.mpr ⟨List.mem_of_getElem? (i := 670) (by decide +kernel), by decide +kernel⟩
theorem vX9_law : wm_calV t_X9_law 2 := ⟨⟨wd_671, wd_77, by decide +kernel, by decide +kernel, by decide +kernel⟩, wd_669, wd_670⟩
theorem dX9_law_0 : decode t_X9_law.2.1 0 = .ok (.aload_n 0, 1) := by decide +kernel
theorem dX9_law_1 : decode t_X9_law.2.1 1 = .ok (.getfield 45, 3) := by decide +kernel
theorem gX9_law_1 : wm_gf t_X9_law 1 9 5 := ⟨_, _, _, 45, rfl, by decide, wd_351, dX9_law_1⟩
theorem dX9_law_4 : decode t_X9_law.2.1 4 = .ok (.getfield 186, 3) := by decide +kernel
theorem wd_205 : Cond.fieldLink RX9 186 "TurnedStones$LawBook" "words" "LTurnedStones$Table;" ∈ lw_gd := List.mem_filter.mpr ⟨List.mem_of_getElem? (i := 205) (by decide +kernel), by decide +kernel⟩
theorem gX9_law_4 : wm_gf t_X9_law 4 0 0 := ⟨_, _, _, 186, rfl, by decide, wd_205, dX9_law_4⟩
theorem dX9_law_7 : decode t_X9_law.2.1 7 = .ok (.iload_n 1, 1) := by decide +kernel
theorem dX9_law_8 : decode t_X9_law.2.1 8 = .ok (.invokevirtual 128, 3) := by decide +kernel
theorem iX9_law_8 : wm_iv t_X9_law t_X5_knows 8 := ⟨128, wd_397, dX9_law_8⟩
theorem dX9_law_11 : decode t_X9_law.2.1 11 = .ok (.ifCond .ne 5, 3) := by decide +kernel
theorem dX9_law_14 : decode t_X9_law.2.1 14 = .ok (.iconst (-1), 1) := by decide +kernel
theorem dX9_law_15 : decode t_X9_law.2.1 15 = .ok (.ireturn, 1) := by decide +kernel
theorem dX9_law_16 : decode t_X9_law.2.1 16 = .ok (.aload_n 0, 1) := by decide +kernel
theorem dX9_law_17 : decode t_X9_law.2.1 17 = .ok (.aload_n 0, 1) := by decide +kernel
theorem dX9_law_18 : decode t_X9_law.2.1 18 = .ok (.getfield 14, 3) := by decide +kernel
theorem gX9_law_18 : wm_gf t_X9_law 18 9 0 := ⟨_, _, _, 14, rfl, by decide, wd_346, dX9_law_18⟩
theorem dX9_law_21 : decode t_X9_law.2.1 21 = .ok (.iload_n 2, 1) := by decide +kernel
theorem dX9_law_22 : decode t_X9_law.2.1 22 = .ok (.invokevirtual 120, 3) := by decide +kernel
theorem iX9_law_22 : wm_iv t_X9_law t_X9_refusal 22 := ⟨120, wd_428, dX9_law_22⟩
theorem dX9_law_25 : decode t_X9_law.2.1 25 = .ok (.istore_n 3, 1) := by decide +kernel
theorem dX9_law_26 : decode t_X9_law.2.1 26 = .ok (.iload_n 3, 1) := by decide +kernel
theorem dX9_law_27 : decode t_X9_law.2.1 27 = .ok (.ifCond .eq 5, 3) := by decide +kernel
theorem dX9_law_30 : decode t_X9_law.2.1 30 = .ok (.iload_n 3, 1) := by decide +kernel
theorem dX9_law_31 : decode t_X9_law.2.1 31 = .ok (.ireturn, 1) := by decide +kernel
theorem dX9_law_32 : decode t_X9_law.2.1 32 = .ok (.aload_n 0, 1) := by decide +kernel
theorem dX9_law_33 : decode t_X9_law.2.1 33 = .ok (.getfield 14, 3) := by decide +kernel
theorem gX9_law_33 : wm_gf t_X9_law 33 9 0 := ⟨_, _, _, 14, rfl, by decide, wd_346, dX9_law_33⟩
theorem dX9_law_36 : decode t_X9_law.2.1 36 = .ok (.iload_n 2, 1) := by decide +kernel
theorem dX9_law_37 : decode t_X9_law.2.1 37 = .ok (.invokevirtual 147, 3) := by decide +kernel
theorem iX9_law_37 : wm_iv t_X9_law t_X5_size 37 := ⟨147, wd_476, dX9_law_37⟩
theorem dX9_law_40 : decode t_X9_law.2.1 40 = .ok (.istore 4, 2) := by decide +kernel
theorem dX9_law_42 : decode t_X9_law.2.1 42 = .ok (.iload 4, 2) := by decide +kernel
theorem dX9_law_44 : decode t_X9_law.2.1 44 = .ok (.iconst 1, 1) := by decide +kernel
theorem dX9_law_45 : decode t_X9_law.2.1 45 = .ok (.if_icmp .lt 9, 3) := by decide +kernel
theorem dX9_law_48 : decode t_X9_law.2.1 48 = .ok (.iload 4, 2) := by decide +kernel
theorem dX9_law_50 : decode t_X9_law.2.1 50 = .ok (.iconst 3, 1) := by decide +kernel
theorem dX9_law_51 : decode t_X9_law.2.1 51 = .ok (.if_icmp .le 9, 3) := by decide +kernel
theorem dX9_law_54 : decode t_X9_law.2.1 54 = .ok (.aload_n 0, 1) := by decide +kernel
theorem dX9_law_55 : decode t_X9_law.2.1 55 = .ok (.iconst 5, 1) := by decide +kernel
theorem dX9_law_56 : decode t_X9_law.2.1 56 = .ok (.invokevirtual 132, 3) := by decide +kernel
theorem iX9_law_56 : wm_iv t_X9_law t_X9_find 56 := ⟨132, wd_401, dX9_law_56⟩
theorem dX9_law_59 : decode t_X9_law.2.1 59 = .ok (.ireturn, 1) := by decide +kernel
theorem dX9_law_60 : decode t_X9_law.2.1 60 = .ok (.aload_n 0, 1) := by decide +kernel
theorem dX9_law_61 : decode t_X9_law.2.1 61 = .ok (.iload_n 2, 1) := by decide +kernel
theorem dX9_law_62 : decode t_X9_law.2.1 62 = .ok (.iconst 0, 1) := by decide +kernel
theorem dX9_law_63 : decode t_X9_law.2.1 63 = .ok (.invokevirtual 189, 3) := by decide +kernel
theorem wd_672 : Cond.methodLink RX9 189 yX9_holdsWords ∈ lw_gd := List.mem_filter.mpr ⟨List.mem_of_getElem? (i := 672) (by decide +kernel), by decide +kernel⟩
theorem iX9_law_63 : wm_iv t_X9_law t_X9_holdsWords 63 := ⟨189, wd_672, dX9_law_63⟩
theorem dX9_law_66 : decode t_X9_law.2.1 66 = .ok (.ifCond .ne 9, 3) := by decide +kernel
theorem dX9_law_69 : decode t_X9_law.2.1 69 = .ok (.aload_n 0, 1) := by decide +kernel
theorem dX9_law_70 : decode t_X9_law.2.1 70 = .ok (.iconst 3, 1) := by decide +kernel
theorem dX9_law_71 : decode t_X9_law.2.1 71 = .ok (.invokevirtual 132, 3) := by decide +kernel
theorem iX9_law_71 : wm_iv t_X9_law t_X9_find 71 := ⟨132, wd_401, dX9_law_71⟩
theorem dX9_law_74 : decode t_X9_law.2.1 74 = .ok (.ireturn, 1) := by decide +kernel
theorem dX9_law_75 : decode t_X9_law.2.1 75 = .ok (.aload_n 0, 1) := by decide +kernel
theorem dX9_law_76 : decode t_X9_law.2.1 76 = .ok (.getfield 45, 3) := by decide +kernel
theorem gX9_law_76 : wm_gf t_X9_law 76 9 5 := ⟨_, _, _, 45, rfl, by decide, wd_351, dX9_law_76⟩
theorem dX9_law_79 : decode t_X9_law.2.1 79 = .ok (.getfield 186, 3) := by decide +kernel
theorem gX9_law_79 : wm_gf t_X9_law 79 0 0 := ⟨_, _, _, 186, rfl, by decide, wd_205, dX9_law_79⟩
theorem dX9_law_82 : decode t_X9_law.2.1 82 = .ok (.iload_n 1, 1) := by decide +kernel
theorem dX9_law_83 : decode t_X9_law.2.1 83 = .ok (.aload_n 0, 1) := by decide +kernel
theorem dX9_law_84 : decode t_X9_law.2.1 84 = .ok (.getfield 14, 3) := by decide +kernel
theorem gX9_law_84 : wm_gf t_X9_law 84 9 0 := ⟨_, _, _, 14, rfl, by decide, wd_346, dX9_law_84⟩
theorem dX9_law_87 : decode t_X9_law.2.1 87 = .ok (.iload_n 2, 1) := by decide +kernel
theorem dX9_law_88 : decode t_X9_law.2.1 88 = .ok (.invokevirtual 192, 3) := by decide +kernel
theorem wd_676 : Cond.methodLink RX9 192 yX5_take ∈ lw_gd := List.mem_filter.mpr ⟨List.mem_of_getElem? (i := 676) (by decide +kernel), by decide +kernel⟩
theorem iX9_law_88 : wm_iv t_X9_law t_X5_take 88 := ⟨192, wd_676, dX9_law_88⟩
theorem dX9_law_91 : decode t_X9_law.2.1 91 = .ok (.aload_n 0, 1) := by decide +kernel
theorem dX9_law_92 : decode t_X9_law.2.1 92 = .ok (.getfield 45, 3) := by decide +kernel
theorem gX9_law_92 : wm_gf t_X9_law 92 9 5 := ⟨_, _, _, 45, rfl, by decide, wd_351, dX9_law_92⟩
theorem dX9_law_95 : decode t_X9_law.2.1 95 = .ok (.iload_n 1, 1) := by decide +kernel
theorem dX9_law_96 : decode t_X9_law.2.1 96 = .ok (.invokevirtual 195, 3) := by decide +kernel
theorem wd_684 : Cond.methodLink RX9 195 yX0_rebuild ∈ lw_gd := List.mem_filter.mpr ⟨List.mem_of_getElem? (i := 684) (by decide +kernel), by decide +kernel⟩
theorem iX9_law_96 : wm_iv t_X9_law t_X0_rebuild 96 := ⟨195, wd_684, dX9_law_96⟩
theorem dX9_law_99 : decode t_X9_law.2.1 99 = .ok (.iload 4, 2) := by decide +kernel
theorem dX9_law_101 : decode t_X9_law.2.1 101 = .ok (.ireturn, 1) := by decide +kernel
theorem wd_688 : Cond.code yX9_reads cX9_reads 9 (some .int) ∈ lw_gd := List.mem_filter.mpr ⟨List.mem_of_getElem? (i := 688) (by decide +kernel), by decide +kernel⟩
theorem wd_686 : Cond.instanceMethod yX9_reads ∈ lw_gd := List.mem_filter.mpr ⟨List.mem_of_getElem? (i := 686) (by decide +kernel), by decide +kernel⟩
theorem wd_687 : Cond.selects RX9 yX9_reads yX9_reads ∈ lw_gd := List.mem_filter.mpr ⟨List.mem_of_getElem? (i := 687) (by decide +kernel), by decide +kernel⟩
theorem vX9_reads : wm_calV t_X9_reads 3 := ⟨⟨wd_688, wd_77, by decide +kernel, by decide +kernel, by decide +kernel⟩, wd_686, wd_687⟩
theorem dX9_reads_0 : decode t_X9_reads.2.1 0 = .ok (.aload_n 0, 1) := by decide +kernel
theorem dX9_reads_1 : decode t_X9_reads.2.1 1 = .ok (.iload_n 1, 1) := by decide +kernel
theorem dX9_reads_2 : decode t_X9_reads.2.1 2 = .ok (.iload_n 2, 1) := by decide +kernel
theorem dX9_reads_3 : decode t_X9_reads.2.1 3 = .ok (.invokevirtual 198, 3) := by decide +kernel
theorem wd_689 : Cond.methodLink RX9 198 yX9_isStreetEnd ∈ lw_gd := List.mem_filter.mpr ⟨List.mem_of_getElem? (i := 689) (by decide +kernel), by decide +kernel⟩
theorem iX9_reads_3 : wm_iv t_X9_reads t_X9_isStreetEnd 3 := ⟨198, wd_689, dX9_reads_3⟩
theorem dX9_reads_6 : decode t_X9_reads.2.1 6 = .ok (.ifCond .eq 14, 3) := by decide +kernel
theorem dX9_reads_9 : decode t_X9_reads.2.1 9 = .ok (.aload_n 0, 1) := by decide +kernel
theorem dX9_reads_10 : decode t_X9_reads.2.1 10 = .ok (.getfield 14, 3) := by decide +kernel
theorem gX9_reads_10 : wm_gf t_X9_reads 10 9 0 := ⟨_, _, _, 14, rfl, by decide, wd_346, dX9_reads_10⟩
theorem dX9_reads_13 : decode t_X9_reads.2.1 13 = .ok (.iload_n 3, 1) := by decide +kernel
theorem dX9_reads_14 : decode t_X9_reads.2.1 14 = .ok (.invokevirtual 128, 3) := by decide +kernel
theorem iX9_reads_14 : wm_iv t_X9_reads t_X5_knows 14 := ⟨128, wd_397, dX9_reads_14⟩
theorem dX9_reads_17 : decode t_X9_reads.2.1 17 = .ok (.ifCond .ne 5, 3) := by decide +kernel
theorem dX9_reads_20 : decode t_X9_reads.2.1 20 = .ok (.iconst (-1), 1) := by decide +kernel
theorem dX9_reads_21 : decode t_X9_reads.2.1 21 = .ok (.ireturn, 1) := by decide +kernel
theorem dX9_reads_22 : decode t_X9_reads.2.1 22 = .ok (.aload_n 0, 1) := by decide +kernel
theorem dX9_reads_23 : decode t_X9_reads.2.1 23 = .ok (.getfield 24, 3) := by decide +kernel
theorem gX9_reads_23 : wm_gf t_X9_reads 23 9 2 := ⟨_, _, _, 24, rfl, by decide, wd_348, dX9_reads_23⟩
theorem dX9_reads_26 : decode t_X9_reads.2.1 26 = .ok (.iload_n 1, 1) := by decide +kernel
theorem dX9_reads_27 : decode t_X9_reads.2.1 27 = .ok (.invokevirtual 201, 3) := by decide +kernel
theorem wd_694 : Cond.methodLink RX9 201 yX4_length ∈ lw_gd := List.mem_filter.mpr ⟨List.mem_of_getElem? (i := 694) (by decide +kernel), by decide +kernel⟩
theorem iX9_reads_27 : wm_iv t_X9_reads t_X4_length 27 := ⟨201, wd_694, dX9_reads_27⟩
theorem dX9_reads_30 : decode t_X9_reads.2.1 30 = .ok (.istore 4, 2) := by decide +kernel
theorem dX9_reads_32 : decode t_X9_reads.2.1 32 = .ok (.iconst 0, 1) := by decide +kernel
theorem dX9_reads_33 : decode t_X9_reads.2.1 33 = .ok (.istore 5, 2) := by decide +kernel
theorem dX9_reads_35 : decode t_X9_reads.2.1 35 = .ok (.aload_n 0, 1) := by decide +kernel
theorem dX9_reads_36 : decode t_X9_reads.2.1 36 = .ok (.getfield 14, 3) := by decide +kernel
theorem gX9_reads_36 : wm_gf t_X9_reads 36 9 0 := ⟨_, _, _, 14, rfl, by decide, wd_346, dX9_reads_36⟩
theorem dX9_reads_39 : decode t_X9_reads.2.1 39 = .ok (.iload_n 3, 1) := by decide +kernel
theorem dX9_reads_40 : decode t_X9_reads.2.1 40 = .ok (.iload 4, 2) := by decide +kernel
theorem dX9_reads_42 : decode t_X9_reads.2.1 42 = .ok (.iconst (-1), 1) := by decide +kernel
theorem dX9_reads_43 : decode t_X9_reads.2.1 43 = .ok (.invokevirtual 204, 3) := by decide +kernel
theorem wd_409 : Cond.methodLink RX9 204 yX5_begin ∈ lw_gd := List.mem_filter.mpr ⟨List.mem_of_getElem? (i := 409) (by decide +kernel), by decide +kernel⟩
theorem iX9_reads_43 : wm_iv t_X9_reads t_X5_begin 43 := ⟨204, wd_409, dX9_reads_43⟩
theorem dX9_reads_46 : decode t_X9_reads.2.1 46 = .ok (.iconst 0, 1) := by decide +kernel
theorem dX9_reads_47 : decode t_X9_reads.2.1 47 = .ok (.istore 6, 2) := by decide +kernel
theorem dX9_reads_49 : decode t_X9_reads.2.1 49 = .ok (.iload 6, 2) := by decide +kernel
theorem dX9_reads_51 : decode t_X9_reads.2.1 51 = .ok (.iload 4, 2) := by decide +kernel
theorem dX9_reads_53 : decode t_X9_reads.2.1 53 = .ok (.if_icmp .ge 69, 3) := by decide +kernel
theorem dX9_reads_56 : decode t_X9_reads.2.1 56 = .ok (.aload_n 0, 1) := by decide +kernel
theorem dX9_reads_57 : decode t_X9_reads.2.1 57 = .ok (.getfield 24, 3) := by decide +kernel
theorem gX9_reads_57 : wm_gf t_X9_reads 57 9 2 := ⟨_, _, _, 24, rfl, by decide, wd_348, dX9_reads_57⟩
theorem dX9_reads_60 : decode t_X9_reads.2.1 60 = .ok (.iload_n 1, 1) := by decide +kernel
theorem dX9_reads_61 : decode t_X9_reads.2.1 61 = .ok (.iload_n 2, 1) := by decide +kernel
theorem dX9_reads_62 : decode t_X9_reads.2.1 62 = .ok (.iload 6, 2) := by decide +kernel
theorem dX9_reads_64 : decode t_X9_reads.2.1 64 = .ok (.invokevirtual 206, 3) := by decide +kernel
theorem wd_695 : Cond.methodLink RX9 206 yX4_stoneAt ∈ lw_gd := List.mem_filter.mpr ⟨List.mem_of_getElem? (i := 695) (by decide +kernel), by decide +kernel⟩
theorem iX9_reads_64 : wm_iv t_X9_reads t_X4_stoneAt 64 := ⟨206, wd_695, dX9_reads_64⟩
theorem dX9_reads_67 : decode t_X9_reads.2.1 67 = .ok (.istore 7, 2) := by decide +kernel
theorem dX9_reads_69 : decode t_X9_reads.2.1 69 = .ok (.aload_n 0, 1) := by decide +kernel
theorem dX9_reads_70 : decode t_X9_reads.2.1 70 = .ok (.getfield 24, 3) := by decide +kernel
theorem gX9_reads_70 : wm_gf t_X9_reads 70 9 2 := ⟨_, _, _, 24, rfl, by decide, wd_348, dX9_reads_70⟩
theorem dX9_reads_73 : decode t_X9_reads.2.1 73 = .ok (.iload 7, 2) := by decide +kernel
theorem dX9_reads_75 : decode t_X9_reads.2.1 75 = .ok (.aload_n 0, 1) := by decide +kernel
theorem dX9_reads_76 : decode t_X9_reads.2.1 76 = .ok (.getfield 24, 3) := by decide +kernel
theorem gX9_reads_76 : wm_gf t_X9_reads 76 9 2 := ⟨_, _, _, 24, rfl, by decide, wd_348, dX9_reads_76⟩
theorem dX9_reads_79 : decode t_X9_reads.2.1 79 = .ok (.aload_n 0, 1) := by decide +kernel
theorem dX9_reads_80 : decode t_X9_reads.2.1 80 = .ok (.getfield 88, 3) := by decide +kernel
theorem gX9_reads_80 : wm_gf t_X9_reads 80 9 12 := ⟨_, _, _, 88, rfl, by decide, wd_358, dX9_reads_80⟩
theorem dX9_reads_83 : decode t_X9_reads.2.1 83 = .ok (.iload 7, 2) := by decide +kernel
theorem dX9_reads_85 : decode t_X9_reads.2.1 85 = .ok (.iload_n 1, 1) := by decide +kernel
theorem dX9_reads_86 : decode t_X9_reads.2.1 86 = .ok (.iload_n 2, 1) := by decide +kernel
theorem dX9_reads_87 : decode t_X9_reads.2.1 87 = .ok (.invokevirtual 210, 3) := by decide +kernel
theorem wd_696 : Cond.methodLink RX9 210 yX4_sideRead ∈ lw_gd := List.mem_filter.mpr ⟨List.mem_of_getElem? (i := 696) (by decide +kernel), by decide +kernel⟩
theorem iX9_reads_87 : wm_iv t_X9_reads t_X4_sideRead 87 := ⟨210, wd_696, dX9_reads_87⟩
theorem dX9_reads_90 : decode t_X9_reads.2.1 90 = .ok (.invokevirtual 214, 3) := by decide +kernel
theorem wd_702 : Cond.methodLink RX9 214 yX4_shown ∈ lw_gd := List.mem_filter.mpr ⟨List.mem_of_getElem? (i := 702) (by decide +kernel), by decide +kernel⟩
theorem iX9_reads_90 : wm_iv t_X9_reads t_X4_shown 90 := ⟨214, wd_702, dX9_reads_90⟩
theorem dX9_reads_93 : decode t_X9_reads.2.1 93 = .ok (.istore 8, 2) := by decide +kernel
theorem dX9_reads_95 : decode t_X9_reads.2.1 95 = .ok (.aload_n 0, 1) := by decide +kernel
theorem dX9_reads_96 : decode t_X9_reads.2.1 96 = .ok (.getfield 14, 3) := by decide +kernel
theorem gX9_reads_96 : wm_gf t_X9_reads 96 9 0 := ⟨_, _, _, 14, rfl, by decide, wd_346, dX9_reads_96⟩
theorem dX9_reads_99 : decode t_X9_reads.2.1 99 = .ok (.iload_n 3, 1) := by decide +kernel
theorem dX9_reads_100 : decode t_X9_reads.2.1 100 = .ok (.iload 6, 2) := by decide +kernel
theorem dX9_reads_102 : decode t_X9_reads.2.1 102 = .ok (.iload 8, 2) := by decide +kernel
theorem dX9_reads_104 : decode t_X9_reads.2.1 104 = .ok (.invokevirtual 116, 3) := by decide +kernel
theorem iX9_reads_104 : wm_iv t_X9_reads t_X5_set 104 := ⟨116, wd_444, dX9_reads_104⟩
theorem dX9_reads_107 : decode t_X9_reads.2.1 107 = .ok (.iload 8, 2) := by decide +kernel
theorem dX9_reads_109 : decode t_X9_reads.2.1 109 = .ok (.iconst (-1), 1) := by decide +kernel
theorem dX9_reads_110 : decode t_X9_reads.2.1 110 = .ok (.if_icmp .eq 6, 3) := by decide +kernel
theorem dX9_reads_113 : decode t_X9_reads.2.1 113 = .ok (.iinc 5 1, 3) := by decide +kernel
theorem dX9_reads_116 : decode t_X9_reads.2.1 116 = .ok (.iinc 6 1, 3) := by decide +kernel
theorem dX9_reads_119 : decode t_X9_reads.2.1 119 = .ok (.goto (-70), 3) := by decide +kernel
theorem dX9_reads_122 : decode t_X9_reads.2.1 122 = .ok (.iload 5, 2) := by decide +kernel
theorem dX9_reads_124 : decode t_X9_reads.2.1 124 = .ok (.ireturn, 1) := by decide +kernel
theorem wd_706 : Cond.code yX9_stands cX9_stands 4 (some .int) ∈ lw_gd := List.mem_filter.mpr ⟨List.mem_of_getElem? (i := 706) (by decide +kernel), by decide +kernel⟩
theorem wd_704 : Cond.instanceMethod yX9_stands ∈ lw_gd := List.mem_filter.mpr ⟨List.mem_of_getElem? (i := 704) (by decide +kernel), by decide +kernel⟩
theorem wd_705 : Cond.selects RX9 yX9_stands yX9_stands ∈ lw_gd := List.mem_filter.mpr ⟨List.mem_of_getElem? (i := 705) (by decide +kernel), by decide +kernel⟩
theorem vX9_stands : wm_calV t_X9_stands 1 := ⟨⟨wd_706, wd_77, by decide +kernel, by decide +kernel, by decide +kernel⟩, wd_704, wd_705⟩
theorem dX9_stands_0 : decode t_X9_stands.2.1 0 = .ok (.aload_n 0, 1) := by decide +kernel
theorem dX9_stands_1 : decode t_X9_stands.2.1 1 = .ok (.aload_n 0, 1) := by decide +kernel
theorem dX9_stands_2 : decode t_X9_stands.2.1 2 = .ok (.getfield 45, 3) := by decide +kernel
theorem gX9_stands_2 : wm_gf t_X9_stands 2 9 5 := ⟨_, _, _, 45, rfl, by decide, wd_351, dX9_stands_2⟩
theorem dX9_stands_5 : decode t_X9_stands.2.1 5 = .ok (.getfield 186, 3) := by decide +kernel
theorem gX9_stands_5 : wm_gf t_X9_stands 5 0 0 := ⟨_, _, _, 186, rfl, by decide, wd_205, dX9_stands_5⟩
theorem dX9_stands_8 : decode t_X9_stands.2.1 8 = .ok (.iload_n 1, 1) := by decide +kernel
theorem dX9_stands_9 : decode t_X9_stands.2.1 9 = .ok (.invokevirtual 120, 3) := by decide +kernel
theorem iX9_stands_9 : wm_iv t_X9_stands t_X9_refusal 9 := ⟨120, wd_428, dX9_stands_9⟩
theorem dX9_stands_12 : decode t_X9_stands.2.1 12 = .ok (.istore_n 2, 1) := by decide +kernel
theorem dX9_stands_13 : decode t_X9_stands.2.1 13 = .ok (.iload_n 2, 1) := by decide +kernel
theorem dX9_stands_14 : decode t_X9_stands.2.1 14 = .ok (.ifCond .eq 5, 3) := by decide +kernel
theorem dX9_stands_17 : decode t_X9_stands.2.1 17 = .ok (.iload_n 2, 1) := by decide +kernel
theorem dX9_stands_18 : decode t_X9_stands.2.1 18 = .ok (.ireturn, 1) := by decide +kernel
theorem dX9_stands_19 : decode t_X9_stands.2.1 19 = .ok (.aload_n 0, 1) := by decide +kernel
theorem dX9_stands_20 : decode t_X9_stands.2.1 20 = .ok (.getfield 77, 3) := by decide +kernel
theorem gX9_stands_20 : wm_gf t_X9_stands 20 9 9 := ⟨_, _, _, 77, rfl, by decide, wd_355, dX9_stands_20⟩
theorem dX9_stands_23 : decode t_X9_stands.2.1 23 = .ok (.aload_n 0, 1) := by decide +kernel
theorem dX9_stands_24 : decode t_X9_stands.2.1 24 = .ok (.getfield 45, 3) := by decide +kernel
theorem gX9_stands_24 : wm_gf t_X9_stands 24 9 5 := ⟨_, _, _, 45, rfl, by decide, wd_351, dX9_stands_24⟩
theorem dX9_stands_27 : decode t_X9_stands.2.1 27 = .ok (.iload_n 1, 1) := by decide +kernel
theorem dX9_stands_28 : decode t_X9_stands.2.1 28 = .ok (.aload_n 0, 1) := by decide +kernel
theorem dX9_stands_29 : decode t_X9_stands.2.1 29 = .ok (.getfield 88, 3) := by decide +kernel
theorem gX9_stands_29 : wm_gf t_X9_stands 29 9 12 := ⟨_, _, _, 88, rfl, by decide, wd_358, dX9_stands_29⟩
theorem dX9_stands_32 : decode t_X9_stands.2.1 32 = .ok (.invokevirtual 217, 3) := by decide +kernel
theorem wd_707 : Cond.methodLink RX9 217 yX0_readings ∈ lw_gd := List.mem_filter.mpr ⟨List.mem_of_getElem? (i := 707) (by decide +kernel), by decide +kernel⟩
theorem iX9_stands_32 : wm_iv t_X9_stands t_X0_readings 32 := ⟨217, wd_707, dX9_stands_32⟩
theorem dX9_stands_35 : decode t_X9_stands.2.1 35 = .ok (.putfield 113, 3) := by decide +kernel
theorem gX9_stands_35 : wm_pf t_X9_stands 35 6 0 .int := ⟨_, _, _, 113, rfl, by decide, wd_325, dX9_stands_35, rfl, by decide +kernel⟩
theorem dX9_stands_38 : decode t_X9_stands.2.1 38 = .ok (.aload_n 0, 1) := by decide +kernel
theorem dX9_stands_39 : decode t_X9_stands.2.1 39 = .ok (.getfield 45, 3) := by decide +kernel
theorem gX9_stands_39 : wm_gf t_X9_stands 39 9 5 := ⟨_, _, _, 45, rfl, by decide, wd_351, dX9_stands_39⟩
theorem dX9_stands_42 : decode t_X9_stands.2.1 42 = .ok (.iload_n 1, 1) := by decide +kernel
theorem dX9_stands_43 : decode t_X9_stands.2.1 43 = .ok (.aload_n 0, 1) := by decide +kernel
theorem dX9_stands_44 : decode t_X9_stands.2.1 44 = .ok (.getfield 88, 3) := by decide +kernel
theorem gX9_stands_44 : wm_gf t_X9_stands 44 9 12 := ⟨_, _, _, 88, rfl, by decide, wd_358, dX9_stands_44⟩
theorem dX9_stands_47 : decode t_X9_stands.2.1 47 = .ok (.invokevirtual 220, 3) := by decide +kernel
theorem wd_729 : Cond.methodLink RX9 220 yX0_level ∈ lw_gd := List.mem_filter.mpr ⟨List.mem_of_getElem? (i := 729) (by decide +kernel), by decide +kernel⟩
theorem iX9_stands_47 : wm_iv t_X9_stands t_X0_level 47 := ⟨220, wd_729, dX9_stands_47⟩
theorem dX9_stands_50 : decode t_X9_stands.2.1 50 = .ok (.istore_n 3, 1) := by decide +kernel
theorem dX9_stands_51 : decode t_X9_stands.2.1 51 = .ok (.iload_n 3, 1) := by decide +kernel
theorem dX9_stands_52 : decode t_X9_stands.2.1 52 = .ok (.iconst 3, 1) := by decide +kernel
theorem dX9_stands_53 : decode t_X9_stands.2.1 53 = .ok (.if_icmp .ne 7, 3) := by decide +kernel
theorem dX9_stands_56 : decode t_X9_stands.2.1 56 = .ok (.iconst 2, 1) := by decide +kernel
theorem dX9_stands_57 : decode t_X9_stands.2.1 57 = .ok (.goto 12, 3) := by decide +kernel
theorem dX9_stands_60 : decode t_X9_stands.2.1 60 = .ok (.iload_n 3, 1) := by decide +kernel
theorem dX9_stands_61 : decode t_X9_stands.2.1 61 = .ok (.ifCond .ne 7, 3) := by decide +kernel
theorem dX9_stands_64 : decode t_X9_stands.2.1 64 = .ok (.iconst 0, 1) := by decide +kernel
theorem dX9_stands_65 : decode t_X9_stands.2.1 65 = .ok (.goto 4, 3) := by decide +kernel
theorem dX9_stands_68 : decode t_X9_stands.2.1 68 = .ok (.iconst 1, 1) := by decide +kernel
theorem dX9_stands_69 : decode t_X9_stands.2.1 69 = .ok (.ireturn, 1) := by decide +kernel
theorem wd_736 : Cond.code yX9_laws cX9_laws 3 (some .int) ∈ lw_gd := List.mem_filter.mpr ⟨List.mem_of_getElem? (i := 736) (by decide +kernel), by decide +kernel⟩
theorem wd_734 : Cond.instanceMethod yX9_laws ∈ lw_gd := List.mem_filter.mpr ⟨List.mem_of_getElem? (i := 734) (by decide +kernel), by decide +kernel⟩
theorem wd_735 : Cond.selects RX9 yX9_laws yX9_laws ∈ lw_gd := List.mem_filter.mpr ⟨List.mem_of_getElem? (i := 735) (by decide +kernel), by decide +kernel⟩
theorem vX9_laws : wm_calV t_X9_laws 0 := ⟨⟨wd_736, wd_77, by decide +kernel, by decide +kernel, by decide +kernel⟩, wd_734, wd_735⟩
theorem dX9_laws_0 : decode t_X9_laws.2.1 0 = .ok (.iconst 0, 1) := by decide +kernel
theorem dX9_laws_1 : decode t_X9_laws.2.1 1 = .ok (.istore_n 1, 1) := by decide +kernel
theorem dX9_laws_2 : decode t_X9_laws.2.1 2 = .ok (.iconst 0, 1) := by decide +kernel
theorem dX9_laws_3 : decode t_X9_laws.2.1 3 = .ok (.istore_n 2, 1) := by decide +kernel
theorem dX9_laws_4 : decode t_X9_laws.2.1 4 = .ok (.iload_n 2, 1) := by decide +kernel
theorem dX9_laws_5 : decode t_X9_laws.2.1 5 = .ok (.iconst 4, 1) := by decide +kernel
theorem dX9_laws_6 : decode t_X9_laws.2.1 6 = .ok (.if_icmp .ge 45, 3) := by decide +kernel
theorem dX9_laws_9 : decode t_X9_laws.2.1 9 = .ok (.aload_n 0, 1) := by decide +kernel
theorem dX9_laws_10 : decode t_X9_laws.2.1 10 = .ok (.getfield 45, 3) := by decide +kernel
theorem gX9_laws_10 : wm_gf t_X9_laws 10 9 5 := ⟨_, _, _, 45, rfl, by decide, wd_351, dX9_laws_10⟩
theorem dX9_laws_13 : decode t_X9_laws.2.1 13 = .ok (.getfield 186, 3) := by decide +kernel
theorem gX9_laws_13 : wm_gf t_X9_laws 13 0 0 := ⟨_, _, _, 186, rfl, by decide, wd_205, dX9_laws_13⟩
theorem dX9_laws_16 : decode t_X9_laws.2.1 16 = .ok (.iload_n 2, 1) := by decide +kernel
theorem dX9_laws_17 : decode t_X9_laws.2.1 17 = .ok (.invokevirtual 136, 3) := by decide +kernel
theorem iX9_laws_17 : wm_iv t_X9_laws t_X5_has 17 := ⟨136, wd_432, dX9_laws_17⟩
theorem dX9_laws_20 : decode t_X9_laws.2.1 20 = .ok (.ifCond .eq 25, 3) := by decide +kernel
theorem dX9_laws_23 : decode t_X9_laws.2.1 23 = .ok (.aload_n 0, 1) := by decide +kernel
theorem dX9_laws_24 : decode t_X9_laws.2.1 24 = .ok (.getfield 45, 3) := by decide +kernel
theorem gX9_laws_24 : wm_gf t_X9_laws 24 9 5 := ⟨_, _, _, 45, rfl, by decide, wd_351, dX9_laws_24⟩
theorem dX9_laws_27 : decode t_X9_laws.2.1 27 = .ok (.iload_n 2, 1) := by decide +kernel
theorem dX9_laws_28 : decode t_X9_laws.2.1 28 = .ok (.aload_n 0, 1) := by decide +kernel
theorem dX9_laws_29 : decode t_X9_laws.2.1 29 = .ok (.getfield 88, 3) := by decide +kernel
theorem gX9_laws_29 : wm_gf t_X9_laws 29 9 12 := ⟨_, _, _, 88, rfl, by decide, wd_358, dX9_laws_29⟩
theorem dX9_laws_32 : decode t_X9_laws.2.1 32 = .ok (.invokevirtual 220, 3) := by decide +kernel
theorem iX9_laws_32 : wm_iv t_X9_laws t_X0_level 32 := ⟨220, wd_729, dX9_laws_32⟩
theorem dX9_laws_35 : decode t_X9_laws.2.1 35 = .ok (.iconst 1, 1) := by decide +kernel
theorem dX9_laws_36 : decode t_X9_laws.2.1 36 = .ok (.if_icmp .lt 9, 3) := by decide +kernel
theorem dX9_laws_39 : decode t_X9_laws.2.1 39 = .ok (.iload_n 1, 1) := by decide +kernel
theorem dX9_laws_40 : decode t_X9_laws.2.1 40 = .ok (.iconst 1, 1) := by decide +kernel
theorem dX9_laws_41 : decode t_X9_laws.2.1 41 = .ok (.iload_n 2, 1) := by decide +kernel
theorem dX9_laws_42 : decode t_X9_laws.2.1 42 = .ok (.ishl, 1) := by decide +kernel
theorem dX9_laws_43 : decode t_X9_laws.2.1 43 = .ok (.ior, 1) := by decide +kernel
theorem dX9_laws_44 : decode t_X9_laws.2.1 44 = .ok (.istore_n 1, 1) := by decide +kernel
theorem dX9_laws_45 : decode t_X9_laws.2.1 45 = .ok (.iinc 2 1, 3) := by decide +kernel
theorem dX9_laws_48 : decode t_X9_laws.2.1 48 = .ok (.goto (-44), 3) := by decide +kernel
theorem dX9_laws_51 : decode t_X9_laws.2.1 51 = .ok (.aload_n 0, 1) := by decide +kernel
theorem dX9_laws_52 : decode t_X9_laws.2.1 52 = .ok (.getfield 77, 3) := by decide +kernel
theorem gX9_laws_52 : wm_gf t_X9_laws 52 9 9 := ⟨_, _, _, 77, rfl, by decide, wd_355, dX9_laws_52⟩
theorem dX9_laws_55 : decode t_X9_laws.2.1 55 = .ok (.iload_n 1, 1) := by decide +kernel
theorem dX9_laws_56 : decode t_X9_laws.2.1 56 = .ok (.putfield 113, 3) := by decide +kernel
theorem gX9_laws_56 : wm_pf t_X9_laws 56 6 0 .int := ⟨_, _, _, 113, rfl, by decide, wd_325, dX9_laws_56, rfl, by decide +kernel⟩
theorem dX9_laws_59 : decode t_X9_laws.2.1 59 = .ok (.aload_n 0, 1) := by decide +kernel
theorem dX9_laws_60 : decode t_X9_laws.2.1 60 = .ok (.getfield 45, 3) := by decide +kernel
theorem gX9_laws_60 : wm_gf t_X9_laws 60 9 5 := ⟨_, _, _, 45, rfl, by decide, wd_351, dX9_laws_60⟩
theorem dX9_laws_63 : decode t_X9_laws.2.1 63 = .ok (.aload_n 0, 1) := by decide +kernel
theorem dX9_laws_64 : decode t_X9_laws.2.1 64 = .ok (.getfield 88, 3) := by decide +kernel
theorem gX9_laws_64 : wm_gf t_X9_laws 64 9 12 := ⟨_, _, _, 88, rfl, by decide, wd_358, dX9_laws_64⟩
theorem dX9_laws_67 : decode t_X9_laws.2.1 67 = .ok (.invokevirtual 223, 3) := by decide +kernel
theorem wd_737 : Cond.methodLink RX9 223 yX0_standingIn ∈ lw_gd := List.mem_filter.mpr ⟨List.mem_of_getElem? (i := 737) (by decide +kernel), by decide +kernel⟩
theorem iX9_laws_67 : wm_iv t_X9_laws t_X0_standingIn 67 := ⟨223, wd_737, dX9_laws_67⟩
theorem dX9_laws_70 : decode t_X9_laws.2.1 70 = .ok (.ireturn, 1) := by decide +kernel
theorem wd_748 : Cond.code yX9_turn cX9_turn 2 (some .int) ∈ lw_gd := List.mem_filter.mpr ⟨List.mem_of_getElem? (i := 748) (by decide +kernel), by decide +kernel⟩
theorem wd_746 : Cond.instanceMethod yX9_turn ∈ lw_gd := List.mem_filter.mpr ⟨List.mem_of_getElem? (i := 746) (by decide +kernel), by decide +kernel⟩
theorem wd_747 : Cond.selects RX9 yX9_turn yX9_turn ∈ lw_gd := List.mem_filter.mpr ⟨List.mem_of_getElem? (i := 747) (by decide +kernel), by decide +kernel⟩
theorem vX9_turn : wm_calV t_X9_turn 1 := ⟨⟨wd_748, wd_77, by decide +kernel, by decide +kernel, by decide +kernel⟩, wd_746, wd_747⟩
theorem dX9_turn_0 : decode t_X9_turn.2.1 0 = .ok (.iload_n 1, 1) := by decide +kernel
theorem dX9_turn_1 : decode t_X9_turn.2.1 1 = .ok (.bipush (-9), 2) := by decide +kernel
theorem dX9_turn_3 : decode t_X9_turn.2.1 3 = .ok (.if_icmp .eq 16, 3) := by decide +kernel
theorem dX9_turn_6 : decode t_X9_turn.2.1 6 = .ok (.aload_n 0, 1) := by decide +kernel
theorem dX9_turn_7 : decode t_X9_turn.2.1 7 = .ok (.getfield 24, 3) := by decide +kernel
theorem gX9_turn_7 : wm_gf t_X9_turn 7 9 2 := ⟨_, _, _, 24, rfl, by decide, wd_348, dX9_turn_7⟩
theorem dX9_turn_10 : decode t_X9_turn.2.1 10 = .ok (.iload_n 1, 1) := by decide +kernel
theorem dX9_turn_11 : decode t_X9_turn.2.1 11 = .ok (.invokevirtual 166, 3) := by decide +kernel
theorem iX9_turn_11 : wm_iv t_X9_turn t_X4_knows 11 := ⟨166, wd_637, dX9_turn_11⟩
theorem dX9_turn_14 : decode t_X9_turn.2.1 14 = .ok (.ifCond .ne 5, 3) := by decide +kernel
theorem dX9_turn_17 : decode t_X9_turn.2.1 17 = .ok (.iconst (-1), 1) := by decide +kernel
theorem dX9_turn_18 : decode t_X9_turn.2.1 18 = .ok (.ireturn, 1) := by decide +kernel
theorem dX9_turn_19 : decode t_X9_turn.2.1 19 = .ok (.aload_n 0, 1) := by decide +kernel
theorem dX9_turn_20 : decode t_X9_turn.2.1 20 = .ok (.iload_n 1, 1) := by decide +kernel
theorem dX9_turn_21 : decode t_X9_turn.2.1 21 = .ok (.invokevirtual 226, 3) := by decide +kernel
theorem wd_749 : Cond.methodLink RX9 226 yX9_mayTurn ∈ lw_gd := List.mem_filter.mpr ⟨List.mem_of_getElem? (i := 749) (by decide +kernel), by decide +kernel⟩
theorem iX9_turn_21 : wm_iv t_X9_turn t_X9_mayTurn 21 := ⟨226, wd_749, dX9_turn_21⟩
theorem dX9_turn_24 : decode t_X9_turn.2.1 24 = .ok (.ifCond .ne 9, 3) := by decide +kernel
theorem dX9_turn_27 : decode t_X9_turn.2.1 27 = .ok (.aload_n 0, 1) := by decide +kernel
theorem dX9_turn_28 : decode t_X9_turn.2.1 28 = .ok (.iconst 3, 1) := by decide +kernel
theorem dX9_turn_29 : decode t_X9_turn.2.1 29 = .ok (.invokevirtual 132, 3) := by decide +kernel
theorem iX9_turn_29 : wm_iv t_X9_turn t_X9_find 29 := ⟨132, wd_401, dX9_turn_29⟩
theorem dX9_turn_32 : decode t_X9_turn.2.1 32 = .ok (.ireturn, 1) := by decide +kernel
theorem dX9_turn_33 : decode t_X9_turn.2.1 33 = .ok (.aload_n 0, 1) := by decide +kernel
theorem dX9_turn_34 : decode t_X9_turn.2.1 34 = .ok (.getfield 92, 3) := by decide +kernel
theorem gX9_turn_34 : wm_gf t_X9_turn 34 9 13 := ⟨_, _, _, 92, rfl, by decide, wd_359, dX9_turn_34⟩
theorem dX9_turn_37 : decode t_X9_turn.2.1 37 = .ok (.sipush 999, 3) := by decide +kernel
theorem dX9_turn_40 : decode t_X9_turn.2.1 40 = .ok (.if_icmp .lt 6, 3) := by decide +kernel
theorem dX9_turn_43 : decode t_X9_turn.2.1 43 = .ok (.bipush (-6), 2) := by decide +kernel
theorem dX9_turn_45 : decode t_X9_turn.2.1 45 = .ok (.ireturn, 1) := by decide +kernel
theorem dX9_turn_46 : decode t_X9_turn.2.1 46 = .ok (.aload_n 0, 1) := by decide +kernel
theorem dX9_turn_47 : decode t_X9_turn.2.1 47 = .ok (.iload_n 1, 1) := by decide +kernel
theorem dX9_turn_48 : decode t_X9_turn.2.1 48 = .ok (.invokevirtual 229, 3) := by decide +kernel
theorem wd_753 : Cond.methodLink RX9 229 yX9_passYear ∈ lw_gd := List.mem_filter.mpr ⟨List.mem_of_getElem? (i := 753) (by decide +kernel), by decide +kernel⟩
theorem iX9_turn_48 : wm_iv t_X9_turn t_X9_passYear 48 := ⟨229, wd_753, dX9_turn_48⟩
theorem dX9_turn_51 : decode t_X9_turn.2.1 51 = .ok (.aload_n 0, 1) := by decide +kernel
theorem dX9_turn_52 : decode t_X9_turn.2.1 52 = .ok (.getfield 92, 3) := by decide +kernel
theorem gX9_turn_52 : wm_gf t_X9_turn 52 9 13 := ⟨_, _, _, 92, rfl, by decide, wd_359, dX9_turn_52⟩
theorem dX9_turn_55 : decode t_X9_turn.2.1 55 = .ok (.ireturn, 1) := by decide +kernel
theorem wd_771 : Cond.code yX9_till cX9_till 5 (some .int) ∈ lw_gd := List.mem_filter.mpr ⟨List.mem_of_getElem? (i := 771) (by decide +kernel), by decide +kernel⟩
theorem wd_769 : Cond.instanceMethod yX9_till ∈ lw_gd := List.mem_filter.mpr ⟨List.mem_of_getElem? (i := 769) (by decide +kernel), by decide +kernel⟩
theorem wd_770 : Cond.selects RX9 yX9_till yX9_till ∈ lw_gd := List.mem_filter.mpr ⟨List.mem_of_getElem? (i := 770) (by decide +kernel), by decide +kernel⟩
theorem vX9_till : wm_calV t_X9_till 2 := ⟨⟨wd_771, wd_77, by decide +kernel, by decide +kernel, by decide +kernel⟩, wd_769, wd_770⟩
theorem dX9_till_0 : decode t_X9_till.2.1 0 = .ok (.aload_n 0, 1) := by decide +kernel
theorem dX9_till_1 : decode t_X9_till.2.1 1 = .ok (.getfield 14, 3) := by decide +kernel
theorem gX9_till_1 : wm_gf t_X9_till 1 9 0 := ⟨_, _, _, 14, rfl, by decide, wd_346, dX9_till_1⟩
theorem dX9_till_4 : decode t_X9_till.2.1 4 = .ok (.iload_n 1, 1) := by decide +kernel
theorem dX9_till_5 : decode t_X9_till.2.1 5 = .ok (.invokevirtual 128, 3) := by decide +kernel
theorem iX9_till_5 : wm_iv t_X9_till t_X5_knows 5 := ⟨128, wd_397, dX9_till_5⟩
theorem dX9_till_8 : decode t_X9_till.2.1 8 = .ok (.ifCond .eq 17, 3) := by decide +kernel
theorem dX9_till_11 : decode t_X9_till.2.1 11 = .ok (.aload_n 0, 1) := by decide +kernel
theorem dX9_till_12 : decode t_X9_till.2.1 12 = .ok (.getfield 45, 3) := by decide +kernel
theorem gX9_till_12 : wm_gf t_X9_till 12 9 5 := ⟨_, _, _, 45, rfl, by decide, wd_351, dX9_till_12⟩
theorem dX9_till_15 : decode t_X9_till.2.1 15 = .ok (.getfield 186, 3) := by decide +kernel
theorem gX9_till_15 : wm_gf t_X9_till 15 0 0 := ⟨_, _, _, 186, rfl, by decide, wd_205, dX9_till_15⟩
theorem dX9_till_18 : decode t_X9_till.2.1 18 = .ok (.iload_n 2, 1) := by decide +kernel
theorem dX9_till_19 : decode t_X9_till.2.1 19 = .ok (.invokevirtual 128, 3) := by decide +kernel
theorem iX9_till_19 : wm_iv t_X9_till t_X5_knows 19 := ⟨128, wd_397, dX9_till_19⟩
theorem dX9_till_22 : decode t_X9_till.2.1 22 = .ok (.ifCond .ne 5, 3) := by decide +kernel
theorem dX9_till_25 : decode t_X9_till.2.1 25 = .ok (.iconst (-1), 1) := by decide +kernel
theorem dX9_till_26 : decode t_X9_till.2.1 26 = .ok (.ireturn, 1) := by decide +kernel
theorem dX9_till_27 : decode t_X9_till.2.1 27 = .ok (.aload_n 0, 1) := by decide +kernel
theorem dX9_till_28 : decode t_X9_till.2.1 28 = .ok (.getfield 45, 3) := by decide +kernel
theorem gX9_till_28 : wm_gf t_X9_till 28 9 5 := ⟨_, _, _, 45, rfl, by decide, wd_351, dX9_till_28⟩
theorem dX9_till_31 : decode t_X9_till.2.1 31 = .ok (.getfield 186, 3) := by decide +kernel
theorem gX9_till_31 : wm_gf t_X9_till 31 0 0 := ⟨_, _, _, 186, rfl, by decide, wd_205, dX9_till_31⟩
theorem dX9_till_34 : decode t_X9_till.2.1 34 = .ok (.iload_n 2, 1) := by decide +kernel
theorem dX9_till_35 : decode t_X9_till.2.1 35 = .ok (.invokevirtual 136, 3) := by decide +kernel
theorem iX9_till_35 : wm_iv t_X9_till t_X5_has 35 := ⟨136, wd_432, dX9_till_35⟩
theorem dX9_till_38 : decode t_X9_till.2.1 38 = .ok (.ifCond .eq 14, 3) := by decide +kernel
theorem dX9_till_41 : decode t_X9_till.2.1 41 = .ok (.aload_n 0, 1) := by decide +kernel
theorem dX9_till_42 : decode t_X9_till.2.1 42 = .ok (.getfield 14, 3) := by decide +kernel
theorem gX9_till_42 : wm_gf t_X9_till 42 9 0 := ⟨_, _, _, 14, rfl, by decide, wd_346, dX9_till_42⟩
theorem dX9_till_45 : decode t_X9_till.2.1 45 = .ok (.iload_n 1, 1) := by decide +kernel
theorem dX9_till_46 : decode t_X9_till.2.1 46 = .ok (.invokevirtual 136, 3) := by decide +kernel
theorem iX9_till_46 : wm_iv t_X9_till t_X5_has 46 := ⟨136, wd_432, dX9_till_46⟩
theorem dX9_till_49 : decode t_X9_till.2.1 49 = .ok (.ifCond .ne 9, 3) := by decide +kernel
theorem dX9_till_52 : decode t_X9_till.2.1 52 = .ok (.aload_n 0, 1) := by decide +kernel
theorem dX9_till_53 : decode t_X9_till.2.1 53 = .ok (.iconst 1, 1) := by decide +kernel
theorem dX9_till_54 : decode t_X9_till.2.1 54 = .ok (.invokevirtual 132, 3) := by decide +kernel
theorem iX9_till_54 : wm_iv t_X9_till t_X9_find 54 := ⟨132, wd_401, dX9_till_54⟩
theorem dX9_till_57 : decode t_X9_till.2.1 57 = .ok (.ireturn, 1) := by decide +kernel
theorem dX9_till_58 : decode t_X9_till.2.1 58 = .ok (.aload_n 0, 1) := by decide +kernel
theorem dX9_till_59 : decode t_X9_till.2.1 59 = .ok (.getfield 14, 3) := by decide +kernel
theorem gX9_till_59 : wm_gf t_X9_till 59 9 0 := ⟨_, _, _, 14, rfl, by decide, wd_346, dX9_till_59⟩
theorem dX9_till_62 : decode t_X9_till.2.1 62 = .ok (.iload_n 1, 1) := by decide +kernel
theorem dX9_till_63 : decode t_X9_till.2.1 63 = .ok (.invokevirtual 147, 3) := by decide +kernel
theorem iX9_till_63 : wm_iv t_X9_till t_X5_size 63 := ⟨147, wd_476, dX9_till_63⟩
theorem dX9_till_66 : decode t_X9_till.2.1 66 = .ok (.istore_n 3, 1) := by decide +kernel
theorem dX9_till_67 : decode t_X9_till.2.1 67 = .ok (.iconst 0, 1) := by decide +kernel
theorem dX9_till_68 : decode t_X9_till.2.1 68 = .ok (.istore 4, 2) := by decide +kernel
theorem dX9_till_70 : decode t_X9_till.2.1 70 = .ok (.iload 4, 2) := by decide +kernel
theorem dX9_till_72 : decode t_X9_till.2.1 72 = .ok (.iload_n 3, 1) := by decide +kernel
theorem dX9_till_73 : decode t_X9_till.2.1 73 = .ok (.if_icmp .ge 32, 3) := by decide +kernel
theorem dX9_till_76 : decode t_X9_till.2.1 76 = .ok (.aload_n 0, 1) := by decide +kernel
theorem dX9_till_77 : decode t_X9_till.2.1 77 = .ok (.aload_n 0, 1) := by decide +kernel
theorem dX9_till_78 : decode t_X9_till.2.1 78 = .ok (.getfield 14, 3) := by decide +kernel
theorem gX9_till_78 : wm_gf t_X9_till 78 9 0 := ⟨_, _, _, 14, rfl, by decide, wd_346, dX9_till_78⟩
theorem dX9_till_81 : decode t_X9_till.2.1 81 = .ok (.iload_n 1, 1) := by decide +kernel
theorem dX9_till_82 : decode t_X9_till.2.1 82 = .ok (.iload 4, 2) := by decide +kernel
theorem dX9_till_84 : decode t_X9_till.2.1 84 = .ok (.invokevirtual 109, 3) := by decide +kernel
theorem iX9_till_84 : wm_iv t_X9_till t_X5_get 84 := ⟨109, wd_440, dX9_till_84⟩
theorem dX9_till_87 : decode t_X9_till.2.1 87 = .ok (.invokevirtual 226, 3) := by decide +kernel
theorem iX9_till_87 : wm_iv t_X9_till t_X9_mayTurn 87 := ⟨226, wd_749, dX9_till_87⟩
theorem dX9_till_90 : decode t_X9_till.2.1 90 = .ok (.ifCond .ne 9, 3) := by decide +kernel
theorem dX9_till_93 : decode t_X9_till.2.1 93 = .ok (.aload_n 0, 1) := by decide +kernel
theorem dX9_till_94 : decode t_X9_till.2.1 94 = .ok (.iconst 3, 1) := by decide +kernel
theorem dX9_till_95 : decode t_X9_till.2.1 95 = .ok (.invokevirtual 132, 3) := by decide +kernel
theorem iX9_till_95 : wm_iv t_X9_till t_X9_find 95 := ⟨132, wd_401, dX9_till_95⟩
theorem dX9_till_98 : decode t_X9_till.2.1 98 = .ok (.ireturn, 1) := by decide +kernel
theorem dX9_till_99 : decode t_X9_till.2.1 99 = .ok (.iinc 4 1, 3) := by decide +kernel
theorem dX9_till_102 : decode t_X9_till.2.1 102 = .ok (.goto (-32), 3) := by decide +kernel
theorem dX9_till_105 : decode t_X9_till.2.1 105 = .ok (.iload_n 3, 1) := by decide +kernel
theorem dX9_till_106 : decode t_X9_till.2.1 106 = .ok (.sipush 999, 3) := by decide +kernel
theorem dX9_till_109 : decode t_X9_till.2.1 109 = .ok (.aload_n 0, 1) := by decide +kernel
theorem dX9_till_110 : decode t_X9_till.2.1 110 = .ok (.getfield 92, 3) := by decide +kernel
theorem gX9_till_110 : wm_gf t_X9_till 110 9 13 := ⟨_, _, _, 92, rfl, by decide, wd_359, dX9_till_110⟩
theorem dX9_till_113 : decode t_X9_till.2.1 113 = .ok (.isub, 1) := by decide +kernel
theorem dX9_till_114 : decode t_X9_till.2.1 114 = .ok (.if_icmp .le 6, 3) := by decide +kernel
theorem dX9_till_117 : decode t_X9_till.2.1 117 = .ok (.bipush (-6), 2) := by decide +kernel
theorem dX9_till_119 : decode t_X9_till.2.1 119 = .ok (.ireturn, 1) := by decide +kernel
theorem dX9_till_120 : decode t_X9_till.2.1 120 = .ok (.iconst 0, 1) := by decide +kernel
theorem dX9_till_121 : decode t_X9_till.2.1 121 = .ok (.istore 4, 2) := by decide +kernel
theorem dX9_till_123 : decode t_X9_till.2.1 123 = .ok (.iload 4, 2) := by decide +kernel
theorem dX9_till_125 : decode t_X9_till.2.1 125 = .ok (.iload_n 3, 1) := by decide +kernel
theorem dX9_till_126 : decode t_X9_till.2.1 126 = .ok (.if_icmp .ge 45, 3) := by decide +kernel
theorem dX9_till_129 : decode t_X9_till.2.1 129 = .ok (.aload_n 0, 1) := by decide +kernel
theorem dX9_till_130 : decode t_X9_till.2.1 130 = .ok (.getfield 45, 3) := by decide +kernel
theorem gX9_till_130 : wm_gf t_X9_till 130 9 5 := ⟨_, _, _, 45, rfl, by decide, wd_351, dX9_till_130⟩
theorem dX9_till_133 : decode t_X9_till.2.1 133 = .ok (.getfield 232, 3) := by decide +kernel
theorem wd_208 : Cond.fieldLink RX9 232 "TurnedStones$LawBook" "standing" "[LTurnedStones$StateSet;" ∈ lw_gd := List.mem_filter.mpr ⟨List.mem_of_getElem? (i := 208) (by decide +kernel), by decide +kernel⟩
theorem gX9_till_133 : wm_gf t_X9_till 133 0 1 := ⟨_, _, _, 232, rfl, by decide, wd_208, dX9_till_133⟩
theorem dX9_till_136 : decode t_X9_till.2.1 136 = .ok (.iload_n 2, 1) := by decide +kernel
theorem dX9_till_137 : decode t_X9_till.2.1 137 = .ok (.aaload, 1) := by decide +kernel
theorem dX9_till_138 : decode t_X9_till.2.1 138 = .ok (.aload_n 0, 1) := by decide +kernel
theorem dX9_till_139 : decode t_X9_till.2.1 139 = .ok (.getfield 88, 3) := by decide +kernel
theorem gX9_till_139 : wm_gf t_X9_till 139 9 12 := ⟨_, _, _, 88, rfl, by decide, wd_358, dX9_till_139⟩
theorem dX9_till_142 : decode t_X9_till.2.1 142 = .ok (.invokevirtual 236, 3) := by decide +kernel
theorem wd_772 : Cond.methodLink RX9 236 yX3_has ∈ lw_gd := List.mem_filter.mpr ⟨List.mem_of_getElem? (i := 772) (by decide +kernel), by decide +kernel⟩
theorem iX9_till_142 : wm_iv t_X9_till t_X3_has 142 := ⟨236, wd_772, dX9_till_142⟩
theorem dX9_till_145 : decode t_X9_till.2.1 145 = .ok (.ifCond .eq 6, 3) := by decide +kernel
theorem dX9_till_148 : decode t_X9_till.2.1 148 = .ok (.iload 4, 2) := by decide +kernel
theorem dX9_till_150 : decode t_X9_till.2.1 150 = .ok (.ireturn, 1) := by decide +kernel
theorem dX9_till_151 : decode t_X9_till.2.1 151 = .ok (.aload_n 0, 1) := by decide +kernel
theorem dX9_till_152 : decode t_X9_till.2.1 152 = .ok (.aload_n 0, 1) := by decide +kernel
theorem dX9_till_153 : decode t_X9_till.2.1 153 = .ok (.getfield 14, 3) := by decide +kernel
theorem gX9_till_153 : wm_gf t_X9_till 153 9 0 := ⟨_, _, _, 14, rfl, by decide, wd_346, dX9_till_153⟩
theorem dX9_till_156 : decode t_X9_till.2.1 156 = .ok (.iload_n 1, 1) := by decide +kernel
theorem dX9_till_157 : decode t_X9_till.2.1 157 = .ok (.iload 4, 2) := by decide +kernel
theorem dX9_till_159 : decode t_X9_till.2.1 159 = .ok (.invokevirtual 109, 3) := by decide +kernel
theorem iX9_till_159 : wm_iv t_X9_till t_X5_get 159 := ⟨109, wd_440, dX9_till_159⟩
theorem dX9_till_162 : decode t_X9_till.2.1 162 = .ok (.invokevirtual 229, 3) := by decide +kernel
theorem iX9_till_162 : wm_iv t_X9_till t_X9_passYear 162 := ⟨229, wd_753, dX9_till_162⟩
theorem dX9_till_165 : decode t_X9_till.2.1 165 = .ok (.iinc 4 1, 3) := by decide +kernel
theorem dX9_till_168 : decode t_X9_till.2.1 168 = .ok (.goto (-45), 3) := by decide +kernel
theorem dX9_till_171 : decode t_X9_till.2.1 171 = .ok (.aload_n 0, 1) := by decide +kernel
theorem dX9_till_172 : decode t_X9_till.2.1 172 = .ok (.getfield 45, 3) := by decide +kernel
theorem gX9_till_172 : wm_gf t_X9_till 172 9 5 := ⟨_, _, _, 45, rfl, by decide, wd_351, dX9_till_172⟩
theorem dX9_till_175 : decode t_X9_till.2.1 175 = .ok (.getfield 232, 3) := by decide +kernel
theorem gX9_till_175 : wm_gf t_X9_till 175 0 1 := ⟨_, _, _, 232, rfl, by decide, wd_208, dX9_till_175⟩
theorem dX9_till_178 : decode t_X9_till.2.1 178 = .ok (.iload_n 2, 1) := by decide +kernel
theorem dX9_till_179 : decode t_X9_till.2.1 179 = .ok (.aaload, 1) := by decide +kernel
theorem dX9_till_180 : decode t_X9_till.2.1 180 = .ok (.aload_n 0, 1) := by decide +kernel
theorem dX9_till_181 : decode t_X9_till.2.1 181 = .ok (.getfield 88, 3) := by decide +kernel
theorem gX9_till_181 : wm_gf t_X9_till 181 9 12 := ⟨_, _, _, 88, rfl, by decide, wd_358, dX9_till_181⟩
theorem dX9_till_184 : decode t_X9_till.2.1 184 = .ok (.invokevirtual 236, 3) := by decide +kernel
theorem iX9_till_184 : wm_iv t_X9_till t_X3_has 184 := ⟨236, wd_772, dX9_till_184⟩
theorem dX9_till_187 : decode t_X9_till.2.1 187 = .ok (.ifCond .eq 7, 3) := by decide +kernel
theorem dX9_till_190 : decode t_X9_till.2.1 190 = .ok (.iload_n 3, 1) := by decide +kernel
theorem dX9_till_191 : decode t_X9_till.2.1 191 = .ok (.goto 5, 3) := by decide +kernel
theorem dX9_till_194 : decode t_X9_till.2.1 194 = .ok (.bipush (-9), 2) := by decide +kernel
theorem dX9_till_196 : decode t_X9_till.2.1 196 = .ok (.ireturn, 1) := by decide +kernel
theorem wd_776 : Cond.code yX9_keep cX9_keep 2 (some .int) ∈ lw_gd := List.mem_filter.mpr ⟨List.mem_of_getElem? (i := 776) (by decide +kernel), by decide +kernel⟩
theorem wd_774 : Cond.instanceMethod yX9_keep ∈ lw_gd := List.mem_filter.mpr ⟨List.mem_of_getElem? (i := 774) (by decide +kernel), by decide +kernel⟩
theorem wd_775 : Cond.selects RX9 yX9_keep yX9_keep ∈ lw_gd := List.mem_filter.mpr ⟨List.mem_of_getElem? (i := 775) (by decide +kernel), by decide +kernel⟩
theorem vX9_keep : wm_calV t_X9_keep 1 := ⟨⟨wd_776, wd_77, by decide +kernel, by decide +kernel, by decide +kernel⟩, wd_774, wd_775⟩
theorem dX9_keep_0 : decode t_X9_keep.2.1 0 = .ok (.iload_n 1, 1) := by decide +kernel
theorem dX9_keep_1 : decode t_X9_keep.2.1 1 = .ok (.ifCond .lt 8, 3) := by decide +kernel
theorem dX9_keep_4 : decode t_X9_keep.2.1 4 = .ok (.iload_n 1, 1) := by decide +kernel
theorem dX9_keep_5 : decode t_X9_keep.2.1 5 = .ok (.iconst 3, 1) := by decide +kernel
theorem dX9_keep_6 : decode t_X9_keep.2.1 6 = .ok (.if_icmp .lt 5, 3) := by decide +kernel
theorem dX9_keep_9 : decode t_X9_keep.2.1 9 = .ok (.iconst (-1), 1) := by decide +kernel
theorem dX9_keep_10 : decode t_X9_keep.2.1 10 = .ok (.ireturn, 1) := by decide +kernel
theorem dX9_keep_11 : decode t_X9_keep.2.1 11 = .ok (.aload_n 0, 1) := by decide +kernel
theorem dX9_keep_12 : decode t_X9_keep.2.1 12 = .ok (.getfield 24, 3) := by decide +kernel
theorem gX9_keep_12 : wm_gf t_X9_keep 12 9 2 := ⟨_, _, _, 24, rfl, by decide, wd_348, dX9_keep_12⟩
theorem dX9_keep_15 : decode t_X9_keep.2.1 15 = .ok (.invokevirtual 162, 3) := by decide +kernel
theorem iX9_keep_15 : wm_iv t_X9_keep t_X4_number 15 := ⟨162, wd_632, dX9_keep_15⟩
theorem dX9_keep_18 : decode t_X9_keep.2.1 18 = .ok (.ifCond .ne 6, 3) := by decide +kernel
theorem dX9_keep_21 : decode t_X9_keep.2.1 21 = .ok (.bipush (-4), 2) := by decide +kernel
theorem dX9_keep_23 : decode t_X9_keep.2.1 23 = .ok (.ireturn, 1) := by decide +kernel
theorem dX9_keep_24 : decode t_X9_keep.2.1 24 = .ok (.aload_n 0, 1) := by decide +kernel
theorem dX9_keep_25 : decode t_X9_keep.2.1 25 = .ok (.getfield 81, 3) := by decide +kernel
theorem wd_356 : Cond.fieldLink RX9 81 "TurnedStones" "keptStates" "[I" ∈ lw_gd := List.mem_filter.mpr ⟨List.mem_of_getElem? (i := 356) (by decide +kernel), by decide +kernel⟩
theorem gX9_keep_25 : wm_gf t_X9_keep 25 9 10 := ⟨_, _, _, 81, rfl, by decide, wd_356, dX9_keep_25⟩
theorem dX9_keep_28 : decode t_X9_keep.2.1 28 = .ok (.iload_n 1, 1) := by decide +kernel
theorem dX9_keep_29 : decode t_X9_keep.2.1 29 = .ok (.aload_n 0, 1) := by decide +kernel
theorem dX9_keep_30 : decode t_X9_keep.2.1 30 = .ok (.getfield 88, 3) := by decide +kernel
theorem gX9_keep_30 : wm_gf t_X9_keep 30 9 12 := ⟨_, _, _, 88, rfl, by decide, wd_358, dX9_keep_30⟩
theorem dX9_keep_33 : decode t_X9_keep.2.1 33 = .ok (.iastore, 1) := by decide +kernel
theorem dX9_keep_34 : decode t_X9_keep.2.1 34 = .ok (.aload_n 0, 1) := by decide +kernel
theorem dX9_keep_35 : decode t_X9_keep.2.1 35 = .ok (.getfield 85, 3) := by decide +kernel
theorem gX9_keep_35 : wm_gf t_X9_keep 35 9 11 := ⟨_, _, _, 85, rfl, by decide, wd_357, dX9_keep_35⟩
theorem dX9_keep_38 : decode t_X9_keep.2.1 38 = .ok (.iload_n 1, 1) := by decide +kernel
theorem dX9_keep_39 : decode t_X9_keep.2.1 39 = .ok (.aload_n 0, 1) := by decide +kernel
theorem dX9_keep_40 : decode t_X9_keep.2.1 40 = .ok (.getfield 92, 3) := by decide +kernel
theorem gX9_keep_40 : wm_gf t_X9_keep 40 9 13 := ⟨_, _, _, 92, rfl, by decide, wd_359, dX9_keep_40⟩
theorem dX9_keep_43 : decode t_X9_keep.2.1 43 = .ok (.iastore, 1) := by decide +kernel
theorem dX9_keep_44 : decode t_X9_keep.2.1 44 = .ok (.aload_n 0, 1) := by decide +kernel
theorem dX9_keep_45 : decode t_X9_keep.2.1 45 = .ok (.getfield 92, 3) := by decide +kernel
theorem gX9_keep_45 : wm_gf t_X9_keep 45 9 13 := ⟨_, _, _, 92, rfl, by decide, wd_359, dX9_keep_45⟩
theorem dX9_keep_48 : decode t_X9_keep.2.1 48 = .ok (.ireturn, 1) := by decide +kernel
theorem wd_780 : Cond.code yX9_on cX9_on 2 (some .int) ∈ lw_gd := List.mem_filter.mpr ⟨List.mem_of_getElem? (i := 780) (by decide +kernel), by decide +kernel⟩
theorem wd_778 : Cond.instanceMethod yX9_on ∈ lw_gd := List.mem_filter.mpr ⟨List.mem_of_getElem? (i := 778) (by decide +kernel), by decide +kernel⟩
theorem wd_779 : Cond.selects RX9 yX9_on yX9_on ∈ lw_gd := List.mem_filter.mpr ⟨List.mem_of_getElem? (i := 779) (by decide +kernel), by decide +kernel⟩
theorem vX9_on : wm_calV t_X9_on 1 := ⟨⟨wd_780, wd_77, by decide +kernel, by decide +kernel, by decide +kernel⟩, wd_778, wd_779⟩
theorem dX9_on_0 : decode t_X9_on.2.1 0 = .ok (.iload_n 1, 1) := by decide +kernel
theorem dX9_on_1 : decode t_X9_on.2.1 1 = .ok (.ifCond .lt 8, 3) := by decide +kernel
theorem dX9_on_4 : decode t_X9_on.2.1 4 = .ok (.iload_n 1, 1) := by decide +kernel
theorem dX9_on_5 : decode t_X9_on.2.1 5 = .ok (.iconst 3, 1) := by decide +kernel
theorem dX9_on_6 : decode t_X9_on.2.1 6 = .ok (.if_icmp .lt 5, 3) := by decide +kernel
theorem dX9_on_9 : decode t_X9_on.2.1 9 = .ok (.iconst (-1), 1) := by decide +kernel
theorem dX9_on_10 : decode t_X9_on.2.1 10 = .ok (.ireturn, 1) := by decide +kernel
theorem dX9_on_11 : decode t_X9_on.2.1 11 = .ok (.aload_n 0, 1) := by decide +kernel
theorem dX9_on_12 : decode t_X9_on.2.1 12 = .ok (.getfield 85, 3) := by decide +kernel
theorem gX9_on_12 : wm_gf t_X9_on 12 9 11 := ⟨_, _, _, 85, rfl, by decide, wd_357, dX9_on_12⟩
theorem dX9_on_15 : decode t_X9_on.2.1 15 = .ok (.iload_n 1, 1) := by decide +kernel
theorem dX9_on_16 : decode t_X9_on.2.1 16 = .ok (.iaload, 1) := by decide +kernel
theorem dX9_on_17 : decode t_X9_on.2.1 17 = .ok (.iconst (-1), 1) := by decide +kernel
theorem dX9_on_18 : decode t_X9_on.2.1 18 = .ok (.if_icmp .ne 9, 3) := by decide +kernel
theorem dX9_on_21 : decode t_X9_on.2.1 21 = .ok (.aload_n 0, 1) := by decide +kernel
theorem dX9_on_22 : decode t_X9_on.2.1 22 = .ok (.iconst 1, 1) := by decide +kernel
theorem dX9_on_23 : decode t_X9_on.2.1 23 = .ok (.invokevirtual 132, 3) := by decide +kernel
theorem iX9_on_23 : wm_iv t_X9_on t_X9_find 23 := ⟨132, wd_401, dX9_on_23⟩
theorem dX9_on_26 : decode t_X9_on.2.1 26 = .ok (.ireturn, 1) := by decide +kernel
theorem dX9_on_27 : decode t_X9_on.2.1 27 = .ok (.aload_n 0, 1) := by decide +kernel
theorem dX9_on_28 : decode t_X9_on.2.1 28 = .ok (.aload_n 0, 1) := by decide +kernel
theorem dX9_on_29 : decode t_X9_on.2.1 29 = .ok (.getfield 81, 3) := by decide +kernel
theorem gX9_on_29 : wm_gf t_X9_on 29 9 10 := ⟨_, _, _, 81, rfl, by decide, wd_356, dX9_on_29⟩
theorem dX9_on_32 : decode t_X9_on.2.1 32 = .ok (.iload_n 1, 1) := by decide +kernel
theorem dX9_on_33 : decode t_X9_on.2.1 33 = .ok (.iaload, 1) := by decide +kernel
theorem dX9_on_34 : decode t_X9_on.2.1 34 = .ok (.putfield 88, 3) := by decide +kernel
theorem gX9_on_34 : wm_pf t_X9_on 34 9 12 .int := ⟨_, _, _, 88, rfl, by decide, wd_358, dX9_on_34, rfl, by decide +kernel⟩
theorem dX9_on_37 : decode t_X9_on.2.1 37 = .ok (.aload_n 0, 1) := by decide +kernel
theorem dX9_on_38 : decode t_X9_on.2.1 38 = .ok (.aload_n 0, 1) := by decide +kernel
theorem dX9_on_39 : decode t_X9_on.2.1 39 = .ok (.getfield 85, 3) := by decide +kernel
theorem gX9_on_39 : wm_gf t_X9_on 39 9 11 := ⟨_, _, _, 85, rfl, by decide, wd_357, dX9_on_39⟩
theorem dX9_on_42 : decode t_X9_on.2.1 42 = .ok (.iload_n 1, 1) := by decide +kernel
theorem dX9_on_43 : decode t_X9_on.2.1 43 = .ok (.iaload, 1) := by decide +kernel
theorem dX9_on_44 : decode t_X9_on.2.1 44 = .ok (.putfield 92, 3) := by decide +kernel
theorem gX9_on_44 : wm_pf t_X9_on 44 9 13 .int := ⟨_, _, _, 92, rfl, by decide, wd_359, dX9_on_44, rfl, by decide +kernel⟩
theorem dX9_on_47 : decode t_X9_on.2.1 47 = .ok (.aload_n 0, 1) := by decide +kernel
theorem dX9_on_48 : decode t_X9_on.2.1 48 = .ok (.getfield 92, 3) := by decide +kernel
theorem gX9_on_48 : wm_gf t_X9_on 48 9 13 := ⟨_, _, _, 92, rfl, by decide, wd_359, dX9_on_48⟩
theorem dX9_on_51 : decode t_X9_on.2.1 51 = .ok (.ireturn, 1) := by decide +kernel
theorem wd_784 : Cond.code yX9_state cX9_state 1 (some .int) ∈ lw_gd := List.mem_filter.mpr ⟨List.mem_of_getElem? (i := 784) (by decide +kernel), by decide +kernel⟩
theorem wd_782 : Cond.instanceMethod yX9_state ∈ lw_gd := List.mem_filter.mpr ⟨List.mem_of_getElem? (i := 782) (by decide +kernel), by decide +kernel⟩
theorem wd_783 : Cond.selects RX9 yX9_state yX9_state ∈ lw_gd := List.mem_filter.mpr ⟨List.mem_of_getElem? (i := 783) (by decide +kernel), by decide +kernel⟩
theorem vX9_state : wm_calV t_X9_state 0 := ⟨⟨wd_784, wd_77, by decide +kernel, by decide +kernel, by decide +kernel⟩, wd_782, wd_783⟩
theorem dX9_state_0 : decode t_X9_state.2.1 0 = .ok (.aload_n 0, 1) := by decide +kernel
theorem dX9_state_1 : decode t_X9_state.2.1 1 = .ok (.getfield 77, 3) := by decide +kernel
theorem gX9_state_1 : wm_gf t_X9_state 1 9 9 := ⟨_, _, _, 77, rfl, by decide, wd_355, dX9_state_1⟩
theorem dX9_state_4 : decode t_X9_state.2.1 4 = .ok (.aload_n 0, 1) := by decide +kernel
theorem dX9_state_5 : decode t_X9_state.2.1 5 = .ok (.getfield 92, 3) := by decide +kernel
theorem gX9_state_5 : wm_gf t_X9_state 5 9 13 := ⟨_, _, _, 92, rfl, by decide, wd_359, dX9_state_5⟩
theorem dX9_state_8 : decode t_X9_state.2.1 8 = .ok (.putfield 113, 3) := by decide +kernel
theorem gX9_state_8 : wm_pf t_X9_state 8 6 0 .int := ⟨_, _, _, 113, rfl, by decide, wd_325, dX9_state_8, rfl, by decide +kernel⟩
theorem dX9_state_11 : decode t_X9_state.2.1 11 = .ok (.aload_n 0, 1) := by decide +kernel
theorem dX9_state_12 : decode t_X9_state.2.1 12 = .ok (.getfield 88, 3) := by decide +kernel
theorem gX9_state_12 : wm_gf t_X9_state 12 9 12 := ⟨_, _, _, 88, rfl, by decide, wd_358, dX9_state_12⟩
theorem dX9_state_15 : decode t_X9_state.2.1 15 = .ok (.ireturn, 1) := by decide +kernel
theorem wd_788 : Cond.code yX9_years cX9_years 3 (some .int) ∈ lw_gd := List.mem_filter.mpr ⟨List.mem_of_getElem? (i := 788) (by decide +kernel), by decide +kernel⟩
theorem wd_786 : Cond.instanceMethod yX9_years ∈ lw_gd := List.mem_filter.mpr ⟨List.mem_of_getElem? (i := 786) (by decide +kernel), by decide +kernel⟩
theorem wd_787 : Cond.selects RX9 yX9_years yX9_years ∈ lw_gd := List.mem_filter.mpr ⟨List.mem_of_getElem? (i := 787) (by decide +kernel), by decide +kernel⟩
theorem vX9_years : wm_calV t_X9_years 1 := ⟨⟨wd_788, wd_77, by decide +kernel, by decide +kernel, by decide +kernel⟩, wd_786, wd_787⟩
theorem dX9_years_0 : decode t_X9_years.2.1 0 = .ok (.iload_n 1, 1) := by decide +kernel
theorem dX9_years_1 : decode t_X9_years.2.1 1 = .ok (.invokestatic 239, 3) := by decide +kernel
theorem wd_789 : Cond.methodLink RX9 239 yX9_isLawSet ∈ lw_gd := List.mem_filter.mpr ⟨List.mem_of_getElem? (i := 789) (by decide +kernel), by decide +kernel⟩
theorem iX9_years_1 : wm_is t_X9_years t_X9_isLawSet 1 := ⟨239, wd_789, dX9_years_1⟩
theorem dX9_years_4 : decode t_X9_years.2.1 4 = .ok (.ifCond .ne 5, 3) := by decide +kernel
theorem dX9_years_7 : decode t_X9_years.2.1 7 = .ok (.iconst (-1), 1) := by decide +kernel
theorem dX9_years_8 : decode t_X9_years.2.1 8 = .ok (.ireturn, 1) := by decide +kernel
theorem dX9_years_9 : decode t_X9_years.2.1 9 = .ok (.aload_n 0, 1) := by decide +kernel
theorem dX9_years_10 : decode t_X9_years.2.1 10 = .ok (.getfield 54, 3) := by decide +kernel
theorem wd_352 : Cond.fieldLink RX9 54 "TurnedStones" "wants" "LTurnedStones$Wants;" ∈ lw_gd := List.mem_filter.mpr ⟨List.mem_of_getElem? (i := 352) (by decide +kernel), by decide +kernel⟩
theorem gX9_years_10 : wm_gf t_X9_years 10 9 6 := ⟨_, _, _, 54, rfl, by decide, wd_352, dX9_years_10⟩
theorem dX9_years_13 : decode t_X9_years.2.1 13 = .ok (.aload_n 0, 1) := by decide +kernel
theorem dX9_years_14 : decode t_X9_years.2.1 14 = .ok (.getfield 88, 3) := by decide +kernel
theorem gX9_years_14 : wm_gf t_X9_years 14 9 12 := ⟨_, _, _, 88, rfl, by decide, wd_358, dX9_years_14⟩
theorem dX9_years_17 : decode t_X9_years.2.1 17 = .ok (.iload_n 1, 1) := by decide +kernel
theorem dX9_years_18 : decode t_X9_years.2.1 18 = .ok (.invokevirtual 242, 3) := by decide +kernel
theorem wd_792 : Cond.methodLink RX9 242 yX8_leastYears ∈ lw_gd := List.mem_filter.mpr ⟨List.mem_of_getElem? (i := 792) (by decide +kernel), by decide +kernel⟩
theorem iX9_years_18 : wm_iv t_X9_years t_X8_leastYears 18 := ⟨242, wd_792, dX9_years_18⟩
theorem dX9_years_21 : decode t_X9_years.2.1 21 = .ok (.istore_n 2, 1) := by decide +kernel
theorem dX9_years_22 : decode t_X9_years.2.1 22 = .ok (.iload_n 2, 1) := by decide +kernel
theorem dX9_years_23 : decode t_X9_years.2.1 23 = .ok (.bipush (-9), 2) := by decide +kernel
theorem dX9_years_25 : decode t_X9_years.2.1 25 = .ok (.if_icmp .ne 6, 3) := by decide +kernel
theorem dX9_years_28 : decode t_X9_years.2.1 28 = .ok (.bipush (-9), 2) := by decide +kernel
theorem dX9_years_30 : decode t_X9_years.2.1 30 = .ok (.ireturn, 1) := by decide +kernel
theorem dX9_years_31 : decode t_X9_years.2.1 31 = .ok (.aload_n 0, 1) := by decide +kernel
theorem dX9_years_32 : decode t_X9_years.2.1 32 = .ok (.getfield 77, 3) := by decide +kernel
theorem gX9_years_32 : wm_gf t_X9_years 32 9 9 := ⟨_, _, _, 77, rfl, by decide, wd_355, dX9_years_32⟩
theorem dX9_years_35 : decode t_X9_years.2.1 35 = .ok (.aload_n 0, 1) := by decide +kernel
theorem dX9_years_36 : decode t_X9_years.2.1 36 = .ok (.getfield 54, 3) := by decide +kernel
theorem gX9_years_36 : wm_gf t_X9_years 36 9 6 := ⟨_, _, _, 54, rfl, by decide, wd_352, dX9_years_36⟩
theorem dX9_years_39 : decode t_X9_years.2.1 39 = .ok (.getfield 245, 3) := by decide +kernel
theorem wd_233 : Cond.fieldLink RX9 245 "TurnedStones$Wants" "reached" "I" ∈ lw_gd := List.mem_filter.mpr ⟨List.mem_of_getElem? (i := 233) (by decide +kernel), by decide +kernel⟩
theorem gX9_years_39 : wm_gf t_X9_years 39 8 0 := ⟨_, _, _, 245, rfl, by decide, wd_233, dX9_years_39⟩
theorem dX9_years_42 : decode t_X9_years.2.1 42 = .ok (.putfield 113, 3) := by decide +kernel
theorem gX9_years_42 : wm_pf t_X9_years 42 6 0 .int := ⟨_, _, _, 113, rfl, by decide, wd_325, dX9_years_42, rfl, by decide +kernel⟩
theorem dX9_years_45 : decode t_X9_years.2.1 45 = .ok (.iload_n 2, 1) := by decide +kernel
theorem dX9_years_46 : decode t_X9_years.2.1 46 = .ok (.ireturn, 1) := by decide +kernel
theorem wd_848 : Cond.code yX9_way cX9_way 8 (some .int) ∈ lw_gd := List.mem_filter.mpr ⟨List.mem_of_getElem? (i := 848) (by decide +kernel), by decide +kernel⟩
theorem wd_846 : Cond.instanceMethod yX9_way ∈ lw_gd := List.mem_filter.mpr ⟨List.mem_of_getElem? (i := 846) (by decide +kernel), by decide +kernel⟩
theorem wd_847 : Cond.selects RX9 yX9_way yX9_way ∈ lw_gd := List.mem_filter.mpr ⟨List.mem_of_getElem? (i := 847) (by decide +kernel), by decide +kernel⟩
theorem vX9_way : wm_calV t_X9_way 2 := ⟨⟨wd_848, wd_77, by decide +kernel, by decide +kernel, by decide +kernel⟩, wd_846, wd_847⟩
theorem dX9_way_0 : decode t_X9_way.2.1 0 = .ok (.iload_n 1, 1) := by decide +kernel
theorem dX9_way_1 : decode t_X9_way.2.1 1 = .ok (.invokestatic 239, 3) := by decide +kernel
theorem iX9_way_1 : wm_is t_X9_way t_X9_isLawSet 1 := ⟨239, wd_789, dX9_way_1⟩
theorem dX9_way_4 : decode t_X9_way.2.1 4 = .ok (.ifCond .eq 14, 3) := by decide +kernel
theorem dX9_way_7 : decode t_X9_way.2.1 7 = .ok (.aload_n 0, 1) := by decide +kernel
theorem dX9_way_8 : decode t_X9_way.2.1 8 = .ok (.getfield 14, 3) := by decide +kernel
theorem gX9_way_8 : wm_gf t_X9_way 8 9 0 := ⟨_, _, _, 14, rfl, by decide, wd_346, dX9_way_8⟩
theorem dX9_way_11 : decode t_X9_way.2.1 11 = .ok (.iload_n 2, 1) := by decide +kernel
theorem dX9_way_12 : decode t_X9_way.2.1 12 = .ok (.invokevirtual 128, 3) := by decide +kernel
theorem iX9_way_12 : wm_iv t_X9_way t_X5_knows 12 := ⟨128, wd_397, dX9_way_12⟩
theorem dX9_way_15 : decode t_X9_way.2.1 15 = .ok (.ifCond .ne 5, 3) := by decide +kernel
theorem dX9_way_18 : decode t_X9_way.2.1 18 = .ok (.iconst (-1), 1) := by decide +kernel
theorem dX9_way_19 : decode t_X9_way.2.1 19 = .ok (.ireturn, 1) := by decide +kernel
theorem dX9_way_20 : decode t_X9_way.2.1 20 = .ok (.aload_n 0, 1) := by decide +kernel
theorem dX9_way_21 : decode t_X9_way.2.1 21 = .ok (.getfield 54, 3) := by decide +kernel
theorem gX9_way_21 : wm_gf t_X9_way 21 9 6 := ⟨_, _, _, 54, rfl, by decide, wd_352, dX9_way_21⟩
theorem dX9_way_24 : decode t_X9_way.2.1 24 = .ok (.aload_n 0, 1) := by decide +kernel
theorem dX9_way_25 : decode t_X9_way.2.1 25 = .ok (.getfield 88, 3) := by decide +kernel
theorem gX9_way_25 : wm_gf t_X9_way 25 9 12 := ⟨_, _, _, 88, rfl, by decide, wd_358, dX9_way_25⟩
theorem dX9_way_28 : decode t_X9_way.2.1 28 = .ok (.iload_n 1, 1) := by decide +kernel
theorem dX9_way_29 : decode t_X9_way.2.1 29 = .ok (.invokevirtual 242, 3) := by decide +kernel
theorem iX9_way_29 : wm_iv t_X9_way t_X8_leastYears 29 := ⟨242, wd_792, dX9_way_29⟩
theorem dX9_way_32 : decode t_X9_way.2.1 32 = .ok (.istore_n 3, 1) := by decide +kernel
theorem dX9_way_33 : decode t_X9_way.2.1 33 = .ok (.iload_n 3, 1) := by decide +kernel
theorem dX9_way_34 : decode t_X9_way.2.1 34 = .ok (.bipush (-9), 2) := by decide +kernel
theorem dX9_way_36 : decode t_X9_way.2.1 36 = .ok (.if_icmp .ne 6, 3) := by decide +kernel
theorem dX9_way_39 : decode t_X9_way.2.1 39 = .ok (.bipush (-9), 2) := by decide +kernel
theorem dX9_way_41 : decode t_X9_way.2.1 41 = .ok (.ireturn, 1) := by decide +kernel
theorem dX9_way_42 : decode t_X9_way.2.1 42 = .ok (.aload_n 0, 1) := by decide +kernel
theorem dX9_way_43 : decode t_X9_way.2.1 43 = .ok (.getfield 14, 3) := by decide +kernel
theorem gX9_way_43 : wm_gf t_X9_way 43 9 0 := ⟨_, _, _, 14, rfl, by decide, wd_346, dX9_way_43⟩
theorem dX9_way_46 : decode t_X9_way.2.1 46 = .ok (.iload_n 2, 1) := by decide +kernel
theorem dX9_way_47 : decode t_X9_way.2.1 47 = .ok (.iload_n 3, 1) := by decide +kernel
theorem dX9_way_48 : decode t_X9_way.2.1 48 = .ok (.iconst 0, 1) := by decide +kernel
theorem dX9_way_49 : decode t_X9_way.2.1 49 = .ok (.invokevirtual 204, 3) := by decide +kernel
theorem iX9_way_49 : wm_iv t_X9_way t_X5_begin 49 := ⟨204, wd_409, dX9_way_49⟩
theorem dX9_way_52 : decode t_X9_way.2.1 52 = .ok (.iconst 0, 1) := by decide +kernel
theorem dX9_way_53 : decode t_X9_way.2.1 53 = .ok (.istore 4, 2) := by decide +kernel
theorem dX9_way_55 : decode t_X9_way.2.1 55 = .ok (.iconst 0, 1) := by decide +kernel
theorem dX9_way_56 : decode t_X9_way.2.1 56 = .ok (.istore 5, 2) := by decide +kernel
theorem dX9_way_58 : decode t_X9_way.2.1 58 = .ok (.iload 5, 2) := by decide +kernel
theorem dX9_way_60 : decode t_X9_way.2.1 60 = .ok (.aload_n 0, 1) := by decide +kernel
theorem dX9_way_61 : decode t_X9_way.2.1 61 = .ok (.getfield 24, 3) := by decide +kernel
theorem gX9_way_61 : wm_gf t_X9_way 61 9 2 := ⟨_, _, _, 24, rfl, by decide, wd_348, dX9_way_61⟩
theorem dX9_way_64 : decode t_X9_way.2.1 64 = .ok (.invokevirtual 162, 3) := by decide +kernel
theorem iX9_way_64 : wm_iv t_X9_way t_X4_number 64 := ⟨162, wd_632, dX9_way_64⟩
theorem dX9_way_67 : decode t_X9_way.2.1 67 = .ok (.if_icmp .ge 62, 3) := by decide +kernel
theorem dX9_way_70 : decode t_X9_way.2.1 70 = .ok (.aload_n 0, 1) := by decide +kernel
theorem dX9_way_71 : decode t_X9_way.2.1 71 = .ok (.getfield 24, 3) := by decide +kernel
theorem gX9_way_71 : wm_gf t_X9_way 71 9 2 := ⟨_, _, _, 24, rfl, by decide, wd_348, dX9_way_71⟩
theorem dX9_way_74 : decode t_X9_way.2.1 74 = .ok (.aload_n 0, 1) := by decide +kernel
theorem dX9_way_75 : decode t_X9_way.2.1 75 = .ok (.getfield 88, 3) := by decide +kernel
theorem gX9_way_75 : wm_gf t_X9_way 75 9 12 := ⟨_, _, _, 88, rfl, by decide, wd_358, dX9_way_75⟩
theorem dX9_way_78 : decode t_X9_way.2.1 78 = .ok (.aload_n 0, 1) := by decide +kernel
theorem dX9_way_79 : decode t_X9_way.2.1 79 = .ok (.getfield 54, 3) := by decide +kernel
theorem gX9_way_79 : wm_gf t_X9_way 79 9 6 := ⟨_, _, _, 54, rfl, by decide, wd_352, dX9_way_79⟩
theorem dX9_way_82 : decode t_X9_way.2.1 82 = .ok (.getfield 245, 3) := by decide +kernel
theorem gX9_way_82 : wm_gf t_X9_way 82 8 0 := ⟨_, _, _, 245, rfl, by decide, wd_233, dX9_way_82⟩
theorem dX9_way_85 : decode t_X9_way.2.1 85 = .ok (.iload 5, 2) := by decide +kernel
theorem dX9_way_87 : decode t_X9_way.2.1 87 = .ok (.invokevirtual 248, 3) := by decide +kernel
theorem wd_849 : Cond.methodLink RX9 248 yX4_turnsBetween ∈ lw_gd := List.mem_filter.mpr ⟨List.mem_of_getElem? (i := 849) (by decide +kernel), by decide +kernel⟩
theorem iX9_way_87 : wm_iv t_X9_way t_X4_turnsBetween 87 := ⟨248, wd_849, dX9_way_87⟩
theorem dX9_way_90 : decode t_X9_way.2.1 90 = .ok (.istore 6, 2) := by decide +kernel
theorem dX9_way_92 : decode t_X9_way.2.1 92 = .ok (.iconst 0, 1) := by decide +kernel
theorem dX9_way_93 : decode t_X9_way.2.1 93 = .ok (.istore 7, 2) := by decide +kernel
theorem dX9_way_95 : decode t_X9_way.2.1 95 = .ok (.iload 7, 2) := by decide +kernel
theorem dX9_way_97 : decode t_X9_way.2.1 97 = .ok (.iload 6, 2) := by decide +kernel
theorem dX9_way_99 : decode t_X9_way.2.1 99 = .ok (.if_icmp .ge 24, 3) := by decide +kernel
theorem dX9_way_102 : decode t_X9_way.2.1 102 = .ok (.aload_n 0, 1) := by decide +kernel
theorem dX9_way_103 : decode t_X9_way.2.1 103 = .ok (.getfield 14, 3) := by decide +kernel
theorem gX9_way_103 : wm_gf t_X9_way 103 9 0 := ⟨_, _, _, 14, rfl, by decide, wd_346, dX9_way_103⟩
theorem dX9_way_106 : decode t_X9_way.2.1 106 = .ok (.iload_n 2, 1) := by decide +kernel
theorem dX9_way_107 : decode t_X9_way.2.1 107 = .ok (.iload 4, 2) := by decide +kernel
theorem dX9_way_109 : decode t_X9_way.2.1 109 = .ok (.iinc 4 1, 3) := by decide +kernel
theorem dX9_way_112 : decode t_X9_way.2.1 112 = .ok (.iload 5, 2) := by decide +kernel
theorem dX9_way_114 : decode t_X9_way.2.1 114 = .ok (.invokevirtual 116, 3) := by decide +kernel
theorem iX9_way_114 : wm_iv t_X9_way t_X5_set 114 := ⟨116, wd_444, dX9_way_114⟩
theorem dX9_way_117 : decode t_X9_way.2.1 117 = .ok (.iinc 7 1, 3) := by decide +kernel
theorem dX9_way_120 : decode t_X9_way.2.1 120 = .ok (.goto (-25), 3) := by decide +kernel
theorem dX9_way_123 : decode t_X9_way.2.1 123 = .ok (.iinc 5 1, 3) := by decide +kernel
theorem dX9_way_126 : decode t_X9_way.2.1 126 = .ok (.goto (-68), 3) := by decide +kernel
theorem dX9_way_129 : decode t_X9_way.2.1 129 = .ok (.iload_n 3, 1) := by decide +kernel
theorem dX9_way_130 : decode t_X9_way.2.1 130 = .ok (.ireturn, 1) := by decide +kernel
theorem wd_856 : Cond.code yX9_lost cX9_lost 8 (some .int) ∈ lw_gd := List.mem_filter.mpr ⟨List.mem_of_getElem? (i := 856) (by decide +kernel), by decide +kernel⟩
theorem wd_854 : Cond.instanceMethod yX9_lost ∈ lw_gd := List.mem_filter.mpr ⟨List.mem_of_getElem? (i := 854) (by decide +kernel), by decide +kernel⟩
theorem wd_855 : Cond.selects RX9 yX9_lost yX9_lost ∈ lw_gd := List.mem_filter.mpr ⟨List.mem_of_getElem? (i := 855) (by decide +kernel), by decide +kernel⟩
theorem vX9_lost : wm_calV t_X9_lost 1 := ⟨⟨wd_856, wd_77, by decide +kernel, by decide +kernel, by decide +kernel⟩, wd_854, wd_855⟩
theorem dX9_lost_0 : decode t_X9_lost.2.1 0 = .ok (.iload_n 1, 1) := by decide +kernel
theorem dX9_lost_1 : decode t_X9_lost.2.1 1 = .ok (.invokestatic 239, 3) := by decide +kernel
theorem iX9_lost_1 : wm_is t_X9_lost t_X9_isLawSet 1 := ⟨239, wd_789, dX9_lost_1⟩
theorem dX9_lost_4 : decode t_X9_lost.2.1 4 = .ok (.ifCond .ne 5, 3) := by decide +kernel
theorem dX9_lost_7 : decode t_X9_lost.2.1 7 = .ok (.iconst (-1), 1) := by decide +kernel
theorem dX9_lost_8 : decode t_X9_lost.2.1 8 = .ok (.ireturn, 1) := by decide +kernel
theorem dX9_lost_9 : decode t_X9_lost.2.1 9 = .ok (.aload_n 0, 1) := by decide +kernel
theorem dX9_lost_10 : decode t_X9_lost.2.1 10 = .ok (.getfield 54, 3) := by decide +kernel
theorem gX9_lost_10 : wm_gf t_X9_lost 10 9 6 := ⟨_, _, _, 54, rfl, by decide, wd_352, dX9_lost_10⟩
theorem dX9_lost_13 : decode t_X9_lost.2.1 13 = .ok (.aload_n 0, 1) := by decide +kernel
theorem dX9_lost_14 : decode t_X9_lost.2.1 14 = .ok (.getfield 88, 3) := by decide +kernel
theorem gX9_lost_14 : wm_gf t_X9_lost 14 9 12 := ⟨_, _, _, 88, rfl, by decide, wd_358, dX9_lost_14⟩
theorem dX9_lost_17 : decode t_X9_lost.2.1 17 = .ok (.iload_n 1, 1) := by decide +kernel
theorem dX9_lost_18 : decode t_X9_lost.2.1 18 = .ok (.invokevirtual 242, 3) := by decide +kernel
theorem iX9_lost_18 : wm_iv t_X9_lost t_X8_leastYears 18 := ⟨242, wd_792, dX9_lost_18⟩
theorem dX9_lost_21 : decode t_X9_lost.2.1 21 = .ok (.bipush (-9), 2) := by decide +kernel
theorem dX9_lost_23 : decode t_X9_lost.2.1 23 = .ok (.if_icmp .ne 6, 3) := by decide +kernel
theorem dX9_lost_26 : decode t_X9_lost.2.1 26 = .ok (.bipush (-9), 2) := by decide +kernel
theorem dX9_lost_28 : decode t_X9_lost.2.1 28 = .ok (.ireturn, 1) := by decide +kernel
theorem dX9_lost_29 : decode t_X9_lost.2.1 29 = .ok (.aload_n 0, 1) := by decide +kernel
theorem dX9_lost_30 : decode t_X9_lost.2.1 30 = .ok (.getfield 45, 3) := by decide +kernel
theorem gX9_lost_30 : wm_gf t_X9_lost 30 9 5 := ⟨_, _, _, 45, rfl, by decide, wd_351, dX9_lost_30⟩
theorem dX9_lost_33 : decode t_X9_lost.2.1 33 = .ok (.aload_n 0, 1) := by decide +kernel
theorem dX9_lost_34 : decode t_X9_lost.2.1 34 = .ok (.getfield 88, 3) := by decide +kernel
theorem gX9_lost_34 : wm_gf t_X9_lost 34 9 12 := ⟨_, _, _, 88, rfl, by decide, wd_358, dX9_lost_34⟩
theorem dX9_lost_37 : decode t_X9_lost.2.1 37 = .ok (.invokevirtual 223, 3) := by decide +kernel
theorem iX9_lost_37 : wm_iv t_X9_lost t_X0_standingIn 37 := ⟨223, wd_737, dX9_lost_37⟩
theorem dX9_lost_40 : decode t_X9_lost.2.1 40 = .ok (.istore_n 2, 1) := by decide +kernel
theorem dX9_lost_41 : decode t_X9_lost.2.1 41 = .ok (.iload_n 2, 1) := by decide +kernel
theorem dX9_lost_42 : decode t_X9_lost.2.1 42 = .ok (.istore_n 3, 1) := by decide +kernel
theorem dX9_lost_43 : decode t_X9_lost.2.1 43 = .ok (.aload_n 0, 1) := by decide +kernel
theorem dX9_lost_44 : decode t_X9_lost.2.1 44 = .ok (.getfield 88, 3) := by decide +kernel
theorem gX9_lost_44 : wm_gf t_X9_lost 44 9 12 := ⟨_, _, _, 88, rfl, by decide, wd_358, dX9_lost_44⟩
theorem dX9_lost_47 : decode t_X9_lost.2.1 47 = .ok (.istore 4, 2) := by decide +kernel
theorem dX9_lost_49 : decode t_X9_lost.2.1 49 = .ok (.iconst 0, 1) := by decide +kernel
theorem dX9_lost_50 : decode t_X9_lost.2.1 50 = .ok (.istore 5, 2) := by decide +kernel
theorem dX9_lost_52 : decode t_X9_lost.2.1 52 = .ok (.iload 5, 2) := by decide +kernel
theorem dX9_lost_54 : decode t_X9_lost.2.1 54 = .ok (.aload_n 0, 1) := by decide +kernel
theorem dX9_lost_55 : decode t_X9_lost.2.1 55 = .ok (.getfield 24, 3) := by decide +kernel
theorem gX9_lost_55 : wm_gf t_X9_lost 55 9 2 := ⟨_, _, _, 24, rfl, by decide, wd_348, dX9_lost_55⟩
theorem dX9_lost_58 : decode t_X9_lost.2.1 58 = .ok (.invokevirtual 162, 3) := by decide +kernel
theorem iX9_lost_58 : wm_iv t_X9_lost t_X4_number 58 := ⟨162, wd_632, dX9_lost_58⟩
theorem dX9_lost_61 : decode t_X9_lost.2.1 61 = .ok (.if_icmp .ge 72, 3) := by decide +kernel
theorem dX9_lost_64 : decode t_X9_lost.2.1 64 = .ok (.aload_n 0, 1) := by decide +kernel
theorem dX9_lost_65 : decode t_X9_lost.2.1 65 = .ok (.getfield 24, 3) := by decide +kernel
theorem gX9_lost_65 : wm_gf t_X9_lost 65 9 2 := ⟨_, _, _, 24, rfl, by decide, wd_348, dX9_lost_65⟩
theorem dX9_lost_68 : decode t_X9_lost.2.1 68 = .ok (.aload_n 0, 1) := by decide +kernel
theorem dX9_lost_69 : decode t_X9_lost.2.1 69 = .ok (.getfield 88, 3) := by decide +kernel
theorem gX9_lost_69 : wm_gf t_X9_lost 69 9 12 := ⟨_, _, _, 88, rfl, by decide, wd_358, dX9_lost_69⟩
theorem dX9_lost_72 : decode t_X9_lost.2.1 72 = .ok (.aload_n 0, 1) := by decide +kernel
theorem dX9_lost_73 : decode t_X9_lost.2.1 73 = .ok (.getfield 54, 3) := by decide +kernel
theorem gX9_lost_73 : wm_gf t_X9_lost 73 9 6 := ⟨_, _, _, 54, rfl, by decide, wd_352, dX9_lost_73⟩
theorem dX9_lost_76 : decode t_X9_lost.2.1 76 = .ok (.getfield 245, 3) := by decide +kernel
theorem gX9_lost_76 : wm_gf t_X9_lost 76 8 0 := ⟨_, _, _, 245, rfl, by decide, wd_233, dX9_lost_76⟩
theorem dX9_lost_79 : decode t_X9_lost.2.1 79 = .ok (.iload 5, 2) := by decide +kernel
theorem dX9_lost_81 : decode t_X9_lost.2.1 81 = .ok (.invokevirtual 248, 3) := by decide +kernel
theorem iX9_lost_81 : wm_iv t_X9_lost t_X4_turnsBetween 81 := ⟨248, wd_849, dX9_lost_81⟩
theorem dX9_lost_84 : decode t_X9_lost.2.1 84 = .ok (.istore 6, 2) := by decide +kernel
theorem dX9_lost_86 : decode t_X9_lost.2.1 86 = .ok (.iconst 0, 1) := by decide +kernel
theorem dX9_lost_87 : decode t_X9_lost.2.1 87 = .ok (.istore 7, 2) := by decide +kernel
theorem dX9_lost_89 : decode t_X9_lost.2.1 89 = .ok (.iload 7, 2) := by decide +kernel
theorem dX9_lost_91 : decode t_X9_lost.2.1 91 = .ok (.iload 6, 2) := by decide +kernel
theorem dX9_lost_93 : decode t_X9_lost.2.1 93 = .ok (.if_icmp .ge 34, 3) := by decide +kernel
theorem dX9_lost_96 : decode t_X9_lost.2.1 96 = .ok (.aload_n 0, 1) := by decide +kernel
theorem dX9_lost_97 : decode t_X9_lost.2.1 97 = .ok (.getfield 24, 3) := by decide +kernel
theorem gX9_lost_97 : wm_gf t_X9_lost 97 9 2 := ⟨_, _, _, 24, rfl, by decide, wd_348, dX9_lost_97⟩
theorem dX9_lost_100 : decode t_X9_lost.2.1 100 = .ok (.iload 4, 2) := by decide +kernel
theorem dX9_lost_102 : decode t_X9_lost.2.1 102 = .ok (.iload 5, 2) := by decide +kernel
theorem dX9_lost_104 : decode t_X9_lost.2.1 104 = .ok (.invokevirtual 251, 3) := by decide +kernel
theorem wd_757 : Cond.methodLink RX9 251 yX4_moved ∈ lw_gd := List.mem_filter.mpr ⟨List.mem_of_getElem? (i := 757) (by decide +kernel), by decide +kernel⟩
theorem iX9_lost_104 : wm_iv t_X9_lost t_X4_moved 104 := ⟨251, wd_757, dX9_lost_104⟩
theorem dX9_lost_107 : decode t_X9_lost.2.1 107 = .ok (.istore 4, 2) := by decide +kernel
theorem dX9_lost_109 : decode t_X9_lost.2.1 109 = .ok (.iload_n 3, 1) := by decide +kernel
theorem dX9_lost_110 : decode t_X9_lost.2.1 110 = .ok (.aload_n 0, 1) := by decide +kernel
theorem dX9_lost_111 : decode t_X9_lost.2.1 111 = .ok (.getfield 45, 3) := by decide +kernel
theorem gX9_lost_111 : wm_gf t_X9_lost 111 9 5 := ⟨_, _, _, 45, rfl, by decide, wd_351, dX9_lost_111⟩
theorem dX9_lost_114 : decode t_X9_lost.2.1 114 = .ok (.iload 4, 2) := by decide +kernel
theorem dX9_lost_116 : decode t_X9_lost.2.1 116 = .ok (.invokevirtual 223, 3) := by decide +kernel
theorem iX9_lost_116 : wm_iv t_X9_lost t_X0_standingIn 116 := ⟨223, wd_737, dX9_lost_116⟩
theorem dX9_lost_119 : decode t_X9_lost.2.1 119 = .ok (.iand, 1) := by decide +kernel
theorem dX9_lost_120 : decode t_X9_lost.2.1 120 = .ok (.istore_n 3, 1) := by decide +kernel
theorem dX9_lost_121 : decode t_X9_lost.2.1 121 = .ok (.iinc 7 1, 3) := by decide +kernel
theorem dX9_lost_124 : decode t_X9_lost.2.1 124 = .ok (.goto (-35), 3) := by decide +kernel
theorem dX9_lost_127 : decode t_X9_lost.2.1 127 = .ok (.iinc 5 1, 3) := by decide +kernel
theorem dX9_lost_130 : decode t_X9_lost.2.1 130 = .ok (.goto (-78), 3) := by decide +kernel
theorem dX9_lost_133 : decode t_X9_lost.2.1 133 = .ok (.aload_n 0, 1) := by decide +kernel
theorem dX9_lost_134 : decode t_X9_lost.2.1 134 = .ok (.getfield 77, 3) := by decide +kernel
theorem gX9_lost_134 : wm_gf t_X9_lost 134 9 9 := ⟨_, _, _, 77, rfl, by decide, wd_355, dX9_lost_134⟩
theorem dX9_lost_137 : decode t_X9_lost.2.1 137 = .ok (.iload_n 3, 1) := by decide +kernel
theorem dX9_lost_138 : decode t_X9_lost.2.1 138 = .ok (.putfield 113, 3) := by decide +kernel
theorem gX9_lost_138 : wm_pf t_X9_lost 138 6 0 .int := ⟨_, _, _, 113, rfl, by decide, wd_325, dX9_lost_138, rfl, by decide +kernel⟩
theorem dX9_lost_141 : decode t_X9_lost.2.1 141 = .ok (.iload_n 2, 1) := by decide +kernel
theorem dX9_lost_142 : decode t_X9_lost.2.1 142 = .ok (.aload_n 0, 1) := by decide +kernel
theorem dX9_lost_143 : decode t_X9_lost.2.1 143 = .ok (.getfield 45, 3) := by decide +kernel
theorem gX9_lost_143 : wm_gf t_X9_lost 143 9 5 := ⟨_, _, _, 45, rfl, by decide, wd_351, dX9_lost_143⟩
theorem dX9_lost_146 : decode t_X9_lost.2.1 146 = .ok (.iload 4, 2) := by decide +kernel
theorem dX9_lost_148 : decode t_X9_lost.2.1 148 = .ok (.invokevirtual 223, 3) := by decide +kernel
theorem iX9_lost_148 : wm_iv t_X9_lost t_X0_standingIn 148 := ⟨223, wd_737, dX9_lost_148⟩
theorem dX9_lost_151 : decode t_X9_lost.2.1 151 = .ok (.iconst (-1), 1) := by decide +kernel
theorem dX9_lost_152 : decode t_X9_lost.2.1 152 = .ok (.ixor, 1) := by decide +kernel
theorem dX9_lost_153 : decode t_X9_lost.2.1 153 = .ok (.iand, 1) := by decide +kernel
theorem dX9_lost_154 : decode t_X9_lost.2.1 154 = .ok (.ireturn, 1) := by decide +kernel
theorem wd_860 : Cond.code yX9_share cX9_share 4 (some .int) ∈ lw_gd := List.mem_filter.mpr ⟨List.mem_of_getElem? (i := 860) (by decide +kernel), by decide +kernel⟩
theorem wd_858 : Cond.instanceMethod yX9_share ∈ lw_gd := List.mem_filter.mpr ⟨List.mem_of_getElem? (i := 858) (by decide +kernel), by decide +kernel⟩
theorem wd_859 : Cond.selects RX9 yX9_share yX9_share ∈ lw_gd := List.mem_filter.mpr ⟨List.mem_of_getElem? (i := 859) (by decide +kernel), by decide +kernel⟩
theorem vX9_share : wm_calV t_X9_share 1 := ⟨⟨wd_860, wd_77, by decide +kernel, by decide +kernel, by decide +kernel⟩, wd_858, wd_859⟩
theorem dX9_share_0 : decode t_X9_share.2.1 0 = .ok (.iload_n 1, 1) := by decide +kernel
theorem dX9_share_1 : decode t_X9_share.2.1 1 = .ok (.invokestatic 239, 3) := by decide +kernel
theorem iX9_share_1 : wm_is t_X9_share t_X9_isLawSet 1 := ⟨239, wd_789, dX9_share_1⟩
theorem dX9_share_4 : decode t_X9_share.2.1 4 = .ok (.ifCond .ne 5, 3) := by decide +kernel
theorem dX9_share_7 : decode t_X9_share.2.1 7 = .ok (.iconst (-1), 1) := by decide +kernel
theorem dX9_share_8 : decode t_X9_share.2.1 8 = .ok (.ireturn, 1) := by decide +kernel
theorem dX9_share_9 : decode t_X9_share.2.1 9 = .ok (.aload_n 0, 1) := by decide +kernel
theorem dX9_share_10 : decode t_X9_share.2.1 10 = .ok (.getfield 24, 3) := by decide +kernel
theorem gX9_share_10 : wm_gf t_X9_share 10 9 2 := ⟨_, _, _, 24, rfl, by decide, wd_348, dX9_share_10⟩
theorem dX9_share_13 : decode t_X9_share.2.1 13 = .ok (.invokevirtual 162, 3) := by decide +kernel
theorem iX9_share_13 : wm_iv t_X9_share t_X4_number 13 := ⟨162, wd_632, dX9_share_13⟩
theorem dX9_share_16 : decode t_X9_share.2.1 16 = .ok (.ifCond .ne 6, 3) := by decide +kernel
theorem dX9_share_19 : decode t_X9_share.2.1 19 = .ok (.bipush (-4), 2) := by decide +kernel
theorem dX9_share_21 : decode t_X9_share.2.1 21 = .ok (.ireturn, 1) := by decide +kernel
theorem dX9_share_22 : decode t_X9_share.2.1 22 = .ok (.aload_n 0, 1) := by decide +kernel
theorem dX9_share_23 : decode t_X9_share.2.1 23 = .ok (.getfield 54, 3) := by decide +kernel
theorem gX9_share_23 : wm_gf t_X9_share 23 9 6 := ⟨_, _, _, 54, rfl, by decide, wd_352, dX9_share_23⟩
theorem dX9_share_26 : decode t_X9_share.2.1 26 = .ok (.iconst 0, 1) := by decide +kernel
theorem dX9_share_27 : decode t_X9_share.2.1 27 = .ok (.invokevirtual 254, 3) := by decide +kernel
theorem wd_861 : Cond.methodLink RX9 254 yX8_goalOf ∈ lw_gd := List.mem_filter.mpr ⟨List.mem_of_getElem? (i := 861) (by decide +kernel), by decide +kernel⟩
theorem iX9_share_27 : wm_iv t_X9_share t_X8_goalOf 27 := ⟨254, wd_861, dX9_share_27⟩
theorem dX9_share_30 : decode t_X9_share.2.1 30 = .ok (.invokevirtual 258, 3) := by decide +kernel
theorem wd_862 : Cond.methodLink RX9 258 yX3_size ∈ lw_gd := List.mem_filter.mpr ⟨List.mem_of_getElem? (i := 862) (by decide +kernel), by decide +kernel⟩
theorem iX9_share_30 : wm_iv t_X9_share t_X3_size 30 := ⟨258, wd_862, dX9_share_30⟩
theorem dX9_share_33 : decode t_X9_share.2.1 33 = .ok (.istore_n 2, 1) := by decide +kernel
theorem dX9_share_34 : decode t_X9_share.2.1 34 = .ok (.aload_n 0, 1) := by decide +kernel
theorem dX9_share_35 : decode t_X9_share.2.1 35 = .ok (.getfield 54, 3) := by decide +kernel
theorem gX9_share_35 : wm_gf t_X9_share 35 9 6 := ⟨_, _, _, 54, rfl, by decide, wd_352, dX9_share_35⟩
theorem dX9_share_38 : decode t_X9_share.2.1 38 = .ok (.iload_n 1, 1) := by decide +kernel
theorem dX9_share_39 : decode t_X9_share.2.1 39 = .ok (.invokevirtual 254, 3) := by decide +kernel
theorem iX9_share_39 : wm_iv t_X9_share t_X8_goalOf 39 := ⟨254, wd_861, dX9_share_39⟩
theorem dX9_share_42 : decode t_X9_share.2.1 42 = .ok (.invokevirtual 258, 3) := by decide +kernel
theorem iX9_share_42 : wm_iv t_X9_share t_X3_size 42 := ⟨258, wd_862, dX9_share_42⟩
theorem dX9_share_45 : decode t_X9_share.2.1 45 = .ok (.istore_n 3, 1) := by decide +kernel
theorem dX9_share_46 : decode t_X9_share.2.1 46 = .ok (.aload_n 0, 1) := by decide +kernel
theorem dX9_share_47 : decode t_X9_share.2.1 47 = .ok (.getfield 77, 3) := by decide +kernel
theorem gX9_share_47 : wm_gf t_X9_share 47 9 9 := ⟨_, _, _, 77, rfl, by decide, wd_355, dX9_share_47⟩
theorem dX9_share_50 : decode t_X9_share.2.1 50 = .ok (.iload_n 3, 1) := by decide +kernel
theorem dX9_share_51 : decode t_X9_share.2.1 51 = .ok (.i2l, 1) := by decide +kernel
theorem dX9_share_52 : decode t_X9_share.2.1 52 = .ok (.iload_n 2, 1) := by decide +kernel
theorem dX9_share_53 : decode t_X9_share.2.1 53 = .ok (.i2l, 1) := by decide +kernel
theorem dX9_share_54 : decode t_X9_share.2.1 54 = .ok (.invokevirtual 260, 3) := by decide +kernel
theorem wd_866 : Cond.methodLink RX9 260 yX6_fraction ∈ lw_gd := List.mem_filter.mpr ⟨List.mem_of_getElem? (i := 866) (by decide +kernel), by decide +kernel⟩
theorem iX9_share_54 : wm_iv t_X9_share t_X6_fraction 54 := ⟨260, wd_866, dX9_share_54⟩
theorem dX9_share_57 : decode t_X9_share.2.1 57 = .ok (.iload_n 3, 1) := by decide +kernel
theorem dX9_share_58 : decode t_X9_share.2.1 58 = .ok (.ireturn, 1) := by decide +kernel
theorem wd_876 : Cond.code yX9_together cX9_together 5 (some .int) ∈ lw_gd := List.mem_filter.mpr ⟨List.mem_of_getElem? (i := 876) (by decide +kernel), by decide +kernel⟩
theorem wd_874 : Cond.instanceMethod yX9_together ∈ lw_gd := List.mem_filter.mpr ⟨List.mem_of_getElem? (i := 874) (by decide +kernel), by decide +kernel⟩
theorem wd_875 : Cond.selects RX9 yX9_together yX9_together ∈ lw_gd := List.mem_filter.mpr ⟨List.mem_of_getElem? (i := 875) (by decide +kernel), by decide +kernel⟩
theorem vX9_together : wm_calV t_X9_together 0 := ⟨⟨wd_876, wd_77, by decide +kernel, by decide +kernel, by decide +kernel⟩, wd_874, wd_875⟩
theorem dX9_together_0 : decode t_X9_together.2.1 0 = .ok (.iconst 0, 1) := by decide +kernel
theorem dX9_together_1 : decode t_X9_together.2.1 1 = .ok (.istore_n 1, 1) := by decide +kernel
theorem dX9_together_2 : decode t_X9_together.2.1 2 = .ok (.iconst 0, 1) := by decide +kernel
theorem dX9_together_3 : decode t_X9_together.2.1 3 = .ok (.istore_n 2, 1) := by decide +kernel
theorem dX9_together_4 : decode t_X9_together.2.1 4 = .ok (.iconst 1, 1) := by decide +kernel
theorem dX9_together_5 : decode t_X9_together.2.1 5 = .ok (.istore_n 3, 1) := by decide +kernel
theorem dX9_together_6 : decode t_X9_together.2.1 6 = .ok (.iload_n 3, 1) := by decide +kernel
theorem dX9_together_7 : decode t_X9_together.2.1 7 = .ok (.bipush 16, 2) := by decide +kernel
theorem dX9_together_9 : decode t_X9_together.2.1 9 = .ok (.if_icmp .ge 40, 3) := by decide +kernel
theorem dX9_together_12 : decode t_X9_together.2.1 12 = .ok (.iload_n 3, 1) := by decide +kernel
theorem dX9_together_13 : decode t_X9_together.2.1 13 = .ok (.invokestatic 264, 3) := by decide +kernel
theorem wd_877 : Cond.methodLink RX9 264 yJ6_bitCount_0f7a4 ∈ lw_gd := List.mem_filter.mpr ⟨List.mem_of_getElem? (i := 877) (by decide +kernel), by decide +kernel⟩
theorem iX9_together_13 : wm_is t_X9_together t_J6_bitCount_0f7a4 13 := ⟨264, wd_877, dX9_together_13⟩
theorem dX9_together_16 : decode t_X9_together.2.1 16 = .ok (.istore 4, 2) := by decide +kernel
theorem dX9_together_18 : decode t_X9_together.2.1 18 = .ok (.iload 4, 2) := by decide +kernel
theorem dX9_together_20 : decode t_X9_together.2.1 20 = .ok (.iload_n 1, 1) := by decide +kernel
theorem dX9_together_21 : decode t_X9_together.2.1 21 = .ok (.if_icmp .le 22, 3) := by decide +kernel
theorem dX9_together_24 : decode t_X9_together.2.1 24 = .ok (.aload_n 0, 1) := by decide +kernel
theorem dX9_together_25 : decode t_X9_together.2.1 25 = .ok (.getfield 54, 3) := by decide +kernel
theorem gX9_together_25 : wm_gf t_X9_together 25 9 6 := ⟨_, _, _, 54, rfl, by decide, wd_352, dX9_together_25⟩
theorem dX9_together_28 : decode t_X9_together.2.1 28 = .ok (.iload_n 3, 1) := by decide +kernel
theorem dX9_together_29 : decode t_X9_together.2.1 29 = .ok (.invokevirtual 254, 3) := by decide +kernel
theorem iX9_together_29 : wm_iv t_X9_together t_X8_goalOf 29 := ⟨254, wd_861, dX9_together_29⟩
theorem dX9_together_32 : decode t_X9_together.2.1 32 = .ok (.invokevirtual 269, 3) := by decide +kernel
theorem wd_878 : Cond.methodLink RX9 269 yX3_isEmpty ∈ lw_gd := List.mem_filter.mpr ⟨List.mem_of_getElem? (i := 878) (by decide +kernel), by decide +kernel⟩
theorem iX9_together_32 : wm_iv t_X9_together t_X3_isEmpty 32 := ⟨269, wd_878, dX9_together_32⟩
theorem dX9_together_35 : decode t_X9_together.2.1 35 = .ok (.ifCond .ne 8, 3) := by decide +kernel
theorem dX9_together_38 : decode t_X9_together.2.1 38 = .ok (.iload 4, 2) := by decide +kernel
theorem dX9_together_40 : decode t_X9_together.2.1 40 = .ok (.istore_n 1, 1) := by decide +kernel
theorem dX9_together_41 : decode t_X9_together.2.1 41 = .ok (.iload_n 3, 1) := by decide +kernel
theorem dX9_together_42 : decode t_X9_together.2.1 42 = .ok (.istore_n 2, 1) := by decide +kernel
theorem dX9_together_43 : decode t_X9_together.2.1 43 = .ok (.iinc 3 1, 3) := by decide +kernel
theorem dX9_together_46 : decode t_X9_together.2.1 46 = .ok (.goto (-40), 3) := by decide +kernel
theorem dX9_together_49 : decode t_X9_together.2.1 49 = .ok (.aload_n 0, 1) := by decide +kernel
theorem dX9_together_50 : decode t_X9_together.2.1 50 = .ok (.getfield 77, 3) := by decide +kernel
theorem gX9_together_50 : wm_gf t_X9_together 50 9 9 := ⟨_, _, _, 77, rfl, by decide, wd_355, dX9_together_50⟩
theorem dX9_together_53 : decode t_X9_together.2.1 53 = .ok (.iload_n 2, 1) := by decide +kernel
theorem dX9_together_54 : decode t_X9_together.2.1 54 = .ok (.putfield 113, 3) := by decide +kernel
theorem gX9_together_54 : wm_pf t_X9_together 54 6 0 .int := ⟨_, _, _, 113, rfl, by decide, wd_325, dX9_together_54, rfl, by decide +kernel⟩
theorem dX9_together_57 : decode t_X9_together.2.1 57 = .ok (.iload_n 1, 1) := by decide +kernel
theorem dX9_together_58 : decode t_X9_together.2.1 58 = .ok (.ireturn, 1) := by decide +kernel
theorem wd_882 : Cond.code yX9_mend cX9_mend 6 (some .int) ∈ lw_gd := List.mem_filter.mpr ⟨List.mem_of_getElem? (i := 882) (by decide +kernel), by decide +kernel⟩
theorem wd_880 : Cond.instanceMethod yX9_mend ∈ lw_gd := List.mem_filter.mpr ⟨List.mem_of_getElem? (i := 880) (by decide +kernel), by decide +kernel⟩
theorem wd_881 : Cond.selects RX9 yX9_mend yX9_mend ∈ lw_gd := List.mem_filter.mpr ⟨List.mem_of_getElem? (i := 881) (by decide +kernel), by decide +kernel⟩
theorem vX9_mend : wm_calV t_X9_mend 1 := ⟨⟨wd_882, wd_77, by decide +kernel, by decide +kernel, by decide +kernel⟩, wd_880, wd_881⟩
theorem dX9_mend_0 : decode t_X9_mend.2.1 0 = .ok (.aload_n 0, 1) := by decide +kernel
theorem dX9_mend_1 : decode t_X9_mend.2.1 1 = .ok (.aload_n 0, 1) := by decide +kernel
theorem dX9_mend_2 : decode t_X9_mend.2.1 2 = .ok (.getfield 45, 3) := by decide +kernel
theorem gX9_mend_2 : wm_gf t_X9_mend 2 9 5 := ⟨_, _, _, 45, rfl, by decide, wd_351, dX9_mend_2⟩
theorem dX9_mend_5 : decode t_X9_mend.2.1 5 = .ok (.getfield 186, 3) := by decide +kernel
theorem gX9_mend_5 : wm_gf t_X9_mend 5 0 0 := ⟨_, _, _, 186, rfl, by decide, wd_205, dX9_mend_5⟩
theorem dX9_mend_8 : decode t_X9_mend.2.1 8 = .ok (.iload_n 1, 1) := by decide +kernel
theorem dX9_mend_9 : decode t_X9_mend.2.1 9 = .ok (.invokevirtual 120, 3) := by decide +kernel
theorem iX9_mend_9 : wm_iv t_X9_mend t_X9_refusal 9 := ⟨120, wd_428, dX9_mend_9⟩
theorem dX9_mend_12 : decode t_X9_mend.2.1 12 = .ok (.istore_n 2, 1) := by decide +kernel
theorem dX9_mend_13 : decode t_X9_mend.2.1 13 = .ok (.iload_n 2, 1) := by decide +kernel
theorem dX9_mend_14 : decode t_X9_mend.2.1 14 = .ok (.ifCond .eq 5, 3) := by decide +kernel
theorem dX9_mend_17 : decode t_X9_mend.2.1 17 = .ok (.iload_n 2, 1) := by decide +kernel
theorem dX9_mend_18 : decode t_X9_mend.2.1 18 = .ok (.ireturn, 1) := by decide +kernel
theorem dX9_mend_19 : decode t_X9_mend.2.1 19 = .ok (.aload_n 0, 1) := by decide +kernel
theorem dX9_mend_20 : decode t_X9_mend.2.1 20 = .ok (.getfield 45, 3) := by decide +kernel
theorem gX9_mend_20 : wm_gf t_X9_mend 20 9 5 := ⟨_, _, _, 45, rfl, by decide, wd_351, dX9_mend_20⟩
theorem dX9_mend_23 : decode t_X9_mend.2.1 23 = .ok (.iload_n 1, 1) := by decide +kernel
theorem dX9_mend_24 : decode t_X9_mend.2.1 24 = .ok (.aload_n 0, 1) := by decide +kernel
theorem dX9_mend_25 : decode t_X9_mend.2.1 25 = .ok (.getfield 88, 3) := by decide +kernel
theorem gX9_mend_25 : wm_gf t_X9_mend 25 9 12 := ⟨_, _, _, 88, rfl, by decide, wd_358, dX9_mend_25⟩
theorem dX9_mend_28 : decode t_X9_mend.2.1 28 = .ok (.invokevirtual 273, 3) := by decide +kernel
theorem wd_883 : Cond.methodLink RX9 273 yX0_leastYears ∈ lw_gd := List.mem_filter.mpr ⟨List.mem_of_getElem? (i := 883) (by decide +kernel), by decide +kernel⟩
theorem iX9_mend_28 : wm_iv t_X9_mend t_X0_leastYears 28 := ⟨273, wd_883, dX9_mend_28⟩
theorem dX9_mend_31 : decode t_X9_mend.2.1 31 = .ok (.bipush (-9), 2) := by decide +kernel
theorem dX9_mend_33 : decode t_X9_mend.2.1 33 = .ok (.if_icmp .eq 6, 3) := by decide +kernel
theorem dX9_mend_36 : decode t_X9_mend.2.1 36 = .ok (.bipush (-4), 2) := by decide +kernel
theorem dX9_mend_38 : decode t_X9_mend.2.1 38 = .ok (.ireturn, 1) := by decide +kernel
theorem dX9_mend_39 : decode t_X9_mend.2.1 39 = .ok (.iconst 0, 1) := by decide +kernel
theorem dX9_mend_40 : decode t_X9_mend.2.1 40 = .ok (.istore_n 3, 1) := by decide +kernel
theorem dX9_mend_41 : decode t_X9_mend.2.1 41 = .ok (.iload_n 3, 1) := by decide +kernel
theorem dX9_mend_42 : decode t_X9_mend.2.1 42 = .ok (.aload_n 0, 1) := by decide +kernel
theorem dX9_mend_43 : decode t_X9_mend.2.1 43 = .ok (.getfield 24, 3) := by decide +kernel
theorem gX9_mend_43 : wm_gf t_X9_mend 43 9 2 := ⟨_, _, _, 24, rfl, by decide, wd_348, dX9_mend_43⟩
theorem dX9_mend_46 : decode t_X9_mend.2.1 46 = .ok (.invokevirtual 162, 3) := by decide +kernel
theorem iX9_mend_46 : wm_iv t_X9_mend t_X4_number 46 := ⟨162, wd_632, dX9_mend_46⟩
theorem dX9_mend_49 : decode t_X9_mend.2.1 49 = .ok (.if_icmp .ge 94, 3) := by decide +kernel
theorem dX9_mend_52 : decode t_X9_mend.2.1 52 = .ok (.iconst 0, 1) := by decide +kernel
theorem dX9_mend_53 : decode t_X9_mend.2.1 53 = .ok (.istore 4, 2) := by decide +kernel
theorem dX9_mend_55 : decode t_X9_mend.2.1 55 = .ok (.iload 4, 2) := by decide +kernel
theorem dX9_mend_57 : decode t_X9_mend.2.1 57 = .ok (.iconst 4, 1) := by decide +kernel
theorem dX9_mend_58 : decode t_X9_mend.2.1 58 = .ok (.if_icmp .ge 79, 3) := by decide +kernel
theorem dX9_mend_61 : decode t_X9_mend.2.1 61 = .ok (.aload_n 0, 1) := by decide +kernel
theorem dX9_mend_62 : decode t_X9_mend.2.1 62 = .ok (.getfield 24, 3) := by decide +kernel
theorem gX9_mend_62 : wm_gf t_X9_mend 62 9 2 := ⟨_, _, _, 24, rfl, by decide, wd_348, dX9_mend_62⟩
theorem dX9_mend_65 : decode t_X9_mend.2.1 65 = .ok (.iload_n 3, 1) := by decide +kernel
theorem dX9_mend_66 : decode t_X9_mend.2.1 66 = .ok (.iload 4, 2) := by decide +kernel
theorem dX9_mend_68 : decode t_X9_mend.2.1 68 = .ok (.invokevirtual 274, 3) := by decide +kernel
theorem wd_895 : Cond.methodLink RX9 274 yX4_isMendable ∈ lw_gd := List.mem_filter.mpr ⟨List.mem_of_getElem? (i := 895) (by decide +kernel), by decide +kernel⟩
theorem iX9_mend_68 : wm_iv t_X9_mend t_X4_isMendable 68 := ⟨274, wd_895, dX9_mend_68⟩
theorem dX9_mend_71 : decode t_X9_mend.2.1 71 = .ok (.ifCond .eq 21, 3) := by decide +kernel
theorem dX9_mend_74 : decode t_X9_mend.2.1 74 = .ok (.aload_n 0, 1) := by decide +kernel
theorem dX9_mend_75 : decode t_X9_mend.2.1 75 = .ok (.getfield 45, 3) := by decide +kernel
theorem gX9_mend_75 : wm_gf t_X9_mend 75 9 5 := ⟨_, _, _, 45, rfl, by decide, wd_351, dX9_mend_75⟩
theorem dX9_mend_78 : decode t_X9_mend.2.1 78 = .ok (.iload_n 1, 1) := by decide +kernel
theorem dX9_mend_79 : decode t_X9_mend.2.1 79 = .ok (.aload_n 0, 1) := by decide +kernel
theorem dX9_mend_80 : decode t_X9_mend.2.1 80 = .ok (.getfield 88, 3) := by decide +kernel
theorem gX9_mend_80 : wm_gf t_X9_mend 80 9 12 := ⟨_, _, _, 88, rfl, by decide, wd_358, dX9_mend_80⟩
theorem dX9_mend_83 : decode t_X9_mend.2.1 83 = .ok (.iload_n 3, 1) := by decide +kernel
theorem dX9_mend_84 : decode t_X9_mend.2.1 84 = .ok (.iload 4, 2) := by decide +kernel
theorem dX9_mend_86 : decode t_X9_mend.2.1 86 = .ok (.invokevirtual 277, 3) := by decide +kernel
theorem wd_899 : Cond.methodLink RX9 277 yX0_mendingWord ∈ lw_gd := List.mem_filter.mpr ⟨List.mem_of_getElem? (i := 899) (by decide +kernel), by decide +kernel⟩
theorem iX9_mend_86 : wm_iv t_X9_mend t_X0_mendingWord 86 := ⟨277, wd_899, dX9_mend_86⟩
theorem dX9_mend_89 : decode t_X9_mend.2.1 89 = .ok (.goto 5, 3) := by decide +kernel
theorem dX9_mend_92 : decode t_X9_mend.2.1 92 = .ok (.bipush (-9), 2) := by decide +kernel
theorem dX9_mend_94 : decode t_X9_mend.2.1 94 = .ok (.istore 5, 2) := by decide +kernel
theorem dX9_mend_96 : decode t_X9_mend.2.1 96 = .ok (.iload 5, 2) := by decide +kernel
theorem dX9_mend_98 : decode t_X9_mend.2.1 98 = .ok (.bipush (-9), 2) := by decide +kernel
theorem dX9_mend_100 : decode t_X9_mend.2.1 100 = .ok (.if_icmp .eq 31, 3) := by decide +kernel
theorem dX9_mend_103 : decode t_X9_mend.2.1 103 = .ok (.aload_n 0, 1) := by decide +kernel
theorem dX9_mend_104 : decode t_X9_mend.2.1 104 = .ok (.getfield 77, 3) := by decide +kernel
theorem gX9_mend_104 : wm_gf t_X9_mend 104 9 9 := ⟨_, _, _, 77, rfl, by decide, wd_355, dX9_mend_104⟩
theorem dX9_mend_107 : decode t_X9_mend.2.1 107 = .ok (.aload_n 0, 1) := by decide +kernel
theorem dX9_mend_108 : decode t_X9_mend.2.1 108 = .ok (.getfield 45, 3) := by decide +kernel
theorem gX9_mend_108 : wm_gf t_X9_mend 108 9 5 := ⟨_, _, _, 45, rfl, by decide, wd_351, dX9_mend_108⟩
theorem dX9_mend_111 : decode t_X9_mend.2.1 111 = .ok (.getfield 280, 3) := by decide +kernel
theorem wd_210 : Cond.fieldLink RX9 280 "TurnedStones$LawBook" "mendedYears" "I" ∈ lw_gd := List.mem_filter.mpr ⟨List.mem_of_getElem? (i := 210) (by decide +kernel), by decide +kernel⟩
theorem gX9_mend_111 : wm_gf t_X9_mend 111 0 2 := ⟨_, _, _, 280, rfl, by decide, wd_210, dX9_mend_111⟩
theorem dX9_mend_114 : decode t_X9_mend.2.1 114 = .ok (.putfield 113, 3) := by decide +kernel
theorem gX9_mend_114 : wm_pf t_X9_mend 114 6 0 .int := ⟨_, _, _, 113, rfl, by decide, wd_325, dX9_mend_114, rfl, by decide +kernel⟩
theorem dX9_mend_117 : decode t_X9_mend.2.1 117 = .ok (.bipush 100, 2) := by decide +kernel
theorem dX9_mend_119 : decode t_X9_mend.2.1 119 = .ok (.iload_n 3, 1) := by decide +kernel
theorem dX9_mend_120 : decode t_X9_mend.2.1 120 = .ok (.imul, 1) := by decide +kernel
theorem dX9_mend_121 : decode t_X9_mend.2.1 121 = .ok (.bipush 10, 2) := by decide +kernel
theorem dX9_mend_123 : decode t_X9_mend.2.1 123 = .ok (.iload 4, 2) := by decide +kernel
theorem dX9_mend_125 : decode t_X9_mend.2.1 125 = .ok (.imul, 1) := by decide +kernel
theorem dX9_mend_126 : decode t_X9_mend.2.1 126 = .ok (.iadd, 1) := by decide +kernel
theorem dX9_mend_127 : decode t_X9_mend.2.1 127 = .ok (.iload 5, 2) := by decide +kernel
theorem dX9_mend_129 : decode t_X9_mend.2.1 129 = .ok (.iadd, 1) := by decide +kernel
theorem dX9_mend_130 : decode t_X9_mend.2.1 130 = .ok (.ireturn, 1) := by decide +kernel
theorem dX9_mend_131 : decode t_X9_mend.2.1 131 = .ok (.iinc 4 1, 3) := by decide +kernel
theorem dX9_mend_134 : decode t_X9_mend.2.1 134 = .ok (.goto (-79), 3) := by decide +kernel
theorem dX9_mend_137 : decode t_X9_mend.2.1 137 = .ok (.iinc 3 1, 3) := by decide +kernel
theorem dX9_mend_140 : decode t_X9_mend.2.1 140 = .ok (.goto (-99), 3) := by decide +kernel
theorem dX9_mend_143 : decode t_X9_mend.2.1 143 = .ok (.bipush (-9), 2) := by decide +kernel
theorem dX9_mend_145 : decode t_X9_mend.2.1 145 = .ok (.ireturn, 1) := by decide +kernel
theorem wd_911 : Cond.code yX9_contest cX9_contest 4 (some .int) ∈ lw_gd := List.mem_filter.mpr ⟨List.mem_of_getElem? (i := 911) (by decide +kernel), by decide +kernel⟩
theorem wd_909 : Cond.instanceMethod yX9_contest ∈ lw_gd := List.mem_filter.mpr ⟨List.mem_of_getElem? (i := 909) (by decide +kernel), by decide +kernel⟩
theorem wd_910 : Cond.selects RX9 yX9_contest yX9_contest ∈ lw_gd := List.mem_filter.mpr ⟨List.mem_of_getElem? (i := 910) (by decide +kernel), by decide +kernel⟩
theorem vX9_contest : wm_calV t_X9_contest 2 := ⟨⟨wd_911, wd_77, by decide +kernel, by decide +kernel, by decide +kernel⟩, wd_909, wd_910⟩
theorem dX9_contest_0 : decode t_X9_contest.2.1 0 = .ok (.aload_n 0, 1) := by decide +kernel
theorem dX9_contest_1 : decode t_X9_contest.2.1 1 = .ok (.getfield 45, 3) := by decide +kernel
theorem gX9_contest_1 : wm_gf t_X9_contest 1 9 5 := ⟨_, _, _, 45, rfl, by decide, wd_351, dX9_contest_1⟩
theorem dX9_contest_4 : decode t_X9_contest.2.1 4 = .ok (.getfield 186, 3) := by decide +kernel
theorem gX9_contest_4 : wm_gf t_X9_contest 4 0 0 := ⟨_, _, _, 186, rfl, by decide, wd_205, dX9_contest_4⟩
theorem dX9_contest_7 : decode t_X9_contest.2.1 7 = .ok (.iload_n 1, 1) := by decide +kernel
theorem dX9_contest_8 : decode t_X9_contest.2.1 8 = .ok (.invokevirtual 128, 3) := by decide +kernel
theorem iX9_contest_8 : wm_iv t_X9_contest t_X5_knows 8 := ⟨128, wd_397, dX9_contest_8⟩
theorem dX9_contest_11 : decode t_X9_contest.2.1 11 = .ok (.ifCond .eq 13, 3) := by decide +kernel
theorem dX9_contest_14 : decode t_X9_contest.2.1 14 = .ok (.iload_n 2, 1) := by decide +kernel
theorem dX9_contest_15 : decode t_X9_contest.2.1 15 = .ok (.ifCond .lt 9, 3) := by decide +kernel
theorem dX9_contest_18 : decode t_X9_contest.2.1 18 = .ok (.iload_n 2, 1) := by decide +kernel
theorem dX9_contest_19 : decode t_X9_contest.2.1 19 = .ok (.bipush 12, 2) := by decide +kernel
theorem dX9_contest_21 : decode t_X9_contest.2.1 21 = .ok (.if_icmp .le 5, 3) := by decide +kernel
theorem dX9_contest_24 : decode t_X9_contest.2.1 24 = .ok (.iconst (-1), 1) := by decide +kernel
theorem dX9_contest_25 : decode t_X9_contest.2.1 25 = .ok (.ireturn, 1) := by decide +kernel
theorem dX9_contest_26 : decode t_X9_contest.2.1 26 = .ok (.aload_n 0, 1) := by decide +kernel
theorem dX9_contest_27 : decode t_X9_contest.2.1 27 = .ok (.getfield 45, 3) := by decide +kernel
theorem gX9_contest_27 : wm_gf t_X9_contest 27 9 5 := ⟨_, _, _, 45, rfl, by decide, wd_351, dX9_contest_27⟩
theorem dX9_contest_30 : decode t_X9_contest.2.1 30 = .ok (.getfield 186, 3) := by decide +kernel
theorem gX9_contest_30 : wm_gf t_X9_contest 30 0 0 := ⟨_, _, _, 186, rfl, by decide, wd_205, dX9_contest_30⟩
theorem dX9_contest_33 : decode t_X9_contest.2.1 33 = .ok (.iload_n 1, 1) := by decide +kernel
theorem dX9_contest_34 : decode t_X9_contest.2.1 34 = .ok (.invokevirtual 136, 3) := by decide +kernel
theorem iX9_contest_34 : wm_iv t_X9_contest t_X5_has 34 := ⟨136, wd_432, dX9_contest_34⟩
theorem dX9_contest_37 : decode t_X9_contest.2.1 37 = .ok (.ifCond .ne 9, 3) := by decide +kernel
theorem dX9_contest_40 : decode t_X9_contest.2.1 40 = .ok (.aload_n 0, 1) := by decide +kernel
theorem dX9_contest_41 : decode t_X9_contest.2.1 41 = .ok (.iconst 1, 1) := by decide +kernel
theorem dX9_contest_42 : decode t_X9_contest.2.1 42 = .ok (.invokevirtual 132, 3) := by decide +kernel
theorem iX9_contest_42 : wm_iv t_X9_contest t_X9_find 42 := ⟨132, wd_401, dX9_contest_42⟩
theorem dX9_contest_45 : decode t_X9_contest.2.1 45 = .ok (.ireturn, 1) := by decide +kernel
theorem dX9_contest_46 : decode t_X9_contest.2.1 46 = .ok (.aload_n 0, 1) := by decide +kernel
theorem dX9_contest_47 : decode t_X9_contest.2.1 47 = .ok (.getfield 54, 3) := by decide +kernel
theorem gX9_contest_47 : wm_gf t_X9_contest 47 9 6 := ⟨_, _, _, 54, rfl, by decide, wd_352, dX9_contest_47⟩
theorem dX9_contest_50 : decode t_X9_contest.2.1 50 = .ok (.iload_n 1, 1) := by decide +kernel
theorem dX9_contest_51 : decode t_X9_contest.2.1 51 = .ok (.iload_n 2, 1) := by decide +kernel
theorem dX9_contest_52 : decode t_X9_contest.2.1 52 = .ok (.aload_n 0, 1) := by decide +kernel
theorem dX9_contest_53 : decode t_X9_contest.2.1 53 = .ok (.getfield 88, 3) := by decide +kernel
theorem gX9_contest_53 : wm_gf t_X9_contest 53 9 12 := ⟨_, _, _, 88, rfl, by decide, wd_358, dX9_contest_53⟩
theorem dX9_contest_56 : decode t_X9_contest.2.1 56 = .ok (.invokevirtual 283, 3) := by decide +kernel
theorem wd_912 : Cond.methodLink RX9 283 yX8_isWon ∈ lw_gd := List.mem_filter.mpr ⟨List.mem_of_getElem? (i := 912) (by decide +kernel), by decide +kernel⟩
theorem iX9_contest_56 : wm_iv t_X9_contest t_X8_isWon 56 := ⟨283, wd_912, dX9_contest_56⟩
theorem dX9_contest_59 : decode t_X9_contest.2.1 59 = .ok (.istore_n 3, 1) := by decide +kernel
theorem dX9_contest_60 : decode t_X9_contest.2.1 60 = .ok (.aload_n 0, 1) := by decide +kernel
theorem dX9_contest_61 : decode t_X9_contest.2.1 61 = .ok (.getfield 77, 3) := by decide +kernel
theorem gX9_contest_61 : wm_gf t_X9_contest 61 9 9 := ⟨_, _, _, 77, rfl, by decide, wd_355, dX9_contest_61⟩
theorem dX9_contest_64 : decode t_X9_contest.2.1 64 = .ok (.aload_n 0, 1) := by decide +kernel
theorem dX9_contest_65 : decode t_X9_contest.2.1 65 = .ok (.getfield 54, 3) := by decide +kernel
theorem gX9_contest_65 : wm_gf t_X9_contest 65 9 6 := ⟨_, _, _, 54, rfl, by decide, wd_352, dX9_contest_65⟩
theorem dX9_contest_68 : decode t_X9_contest.2.1 68 = .ok (.getfield 286, 3) := by decide +kernel
theorem wd_235 : Cond.fieldLink RX9 286 "TurnedStones$Wants" "opening" "I" ∈ lw_gd := List.mem_filter.mpr ⟨List.mem_of_getElem? (i := 235) (by decide +kernel), by decide +kernel⟩
theorem gX9_contest_68 : wm_gf t_X9_contest 68 8 1 := ⟨_, _, _, 286, rfl, by decide, wd_235, dX9_contest_68⟩
theorem dX9_contest_71 : decode t_X9_contest.2.1 71 = .ok (.putfield 113, 3) := by decide +kernel
theorem gX9_contest_71 : wm_pf t_X9_contest 71 6 0 .int := ⟨_, _, _, 113, rfl, by decide, wd_325, dX9_contest_71, rfl, by decide +kernel⟩
theorem dX9_contest_74 : decode t_X9_contest.2.1 74 = .ok (.iload_n 3, 1) := by decide +kernel
theorem dX9_contest_75 : decode t_X9_contest.2.1 75 = .ok (.ifCond .eq 7, 3) := by decide +kernel
theorem dX9_contest_78 : decode t_X9_contest.2.1 78 = .ok (.iconst 1, 1) := by decide +kernel
theorem dX9_contest_79 : decode t_X9_contest.2.1 79 = .ok (.goto 4, 3) := by decide +kernel
theorem dX9_contest_82 : decode t_X9_contest.2.1 82 = .ok (.iconst 0, 1) := by decide +kernel
theorem dX9_contest_83 : decode t_X9_contest.2.1 83 = .ok (.ireturn, 1) := by decide +kernel
theorem wd_929 : Cond.code yX9_engrave cX9_engrave 6 (some .int) ∈ lw_gd := List.mem_filter.mpr ⟨List.mem_of_getElem? (i := 929) (by decide +kernel), by decide +kernel⟩
theorem wd_927 : Cond.instanceMethod yX9_engrave ∈ lw_gd := List.mem_filter.mpr ⟨List.mem_of_getElem? (i := 927) (by decide +kernel), by decide +kernel⟩
theorem wd_928 : Cond.selects RX9 yX9_engrave yX9_engrave ∈ lw_gd := List.mem_filter.mpr ⟨List.mem_of_getElem? (i := 928) (by decide +kernel), by decide +kernel⟩
theorem vX9_engrave : wm_calV t_X9_engrave 4 := ⟨⟨wd_929, wd_77, by decide +kernel, by decide +kernel, by decide +kernel⟩, wd_927, wd_928⟩
theorem dX9_engrave_0 : decode t_X9_engrave.2.1 0 = .ok (.iload_n 1, 1) := by decide +kernel
theorem dX9_engrave_1 : decode t_X9_engrave.2.1 1 = .ok (.invokestatic 289, 3) := by decide +kernel
theorem wd_930 : Cond.methodLink RX9 289 yX9_isToldYear ∈ lw_gd := List.mem_filter.mpr ⟨List.mem_of_getElem? (i := 930) (by decide +kernel), by decide +kernel⟩
theorem iX9_engrave_1 : wm_is t_X9_engrave t_X9_isToldYear 1 := ⟨289, wd_930, dX9_engrave_1⟩
theorem dX9_engrave_4 : decode t_X9_engrave.2.1 4 = .ok (.ifCond .eq 12, 3) := by decide +kernel
theorem dX9_engrave_7 : decode t_X9_engrave.2.1 7 = .ok (.aload_n 0, 1) := by decide +kernel
theorem dX9_engrave_8 : decode t_X9_engrave.2.1 8 = .ok (.iload_n 2, 1) := by decide +kernel
theorem dX9_engrave_9 : decode t_X9_engrave.2.1 9 = .ok (.iload_n 3, 1) := by decide +kernel
theorem dX9_engrave_10 : decode t_X9_engrave.2.1 10 = .ok (.invokevirtual 198, 3) := by decide +kernel
theorem iX9_engrave_10 : wm_iv t_X9_engrave t_X9_isStreetEnd 10 := ⟨198, wd_689, dX9_engrave_10⟩
theorem dX9_engrave_13 : decode t_X9_engrave.2.1 13 = .ok (.ifCond .ne 5, 3) := by decide +kernel
theorem dX9_engrave_16 : decode t_X9_engrave.2.1 16 = .ok (.iconst (-1), 1) := by decide +kernel
theorem dX9_engrave_17 : decode t_X9_engrave.2.1 17 = .ok (.ireturn, 1) := by decide +kernel
theorem dX9_engrave_18 : decode t_X9_engrave.2.1 18 = .ok (.aload_n 0, 1) := by decide +kernel
theorem dX9_engrave_19 : decode t_X9_engrave.2.1 19 = .ok (.aload_n 0, 1) := by decide +kernel
theorem dX9_engrave_20 : decode t_X9_engrave.2.1 20 = .ok (.getfield 14, 3) := by decide +kernel
theorem gX9_engrave_20 : wm_gf t_X9_engrave 20 9 0 := ⟨_, _, _, 14, rfl, by decide, wd_346, dX9_engrave_20⟩
theorem dX9_engrave_23 : decode t_X9_engrave.2.1 23 = .ok (.iload 4, 2) := by decide +kernel
theorem dX9_engrave_25 : decode t_X9_engrave.2.1 25 = .ok (.invokevirtual 120, 3) := by decide +kernel
theorem iX9_engrave_25 : wm_iv t_X9_engrave t_X9_refusal 25 := ⟨120, wd_428, dX9_engrave_25⟩
theorem dX9_engrave_28 : decode t_X9_engrave.2.1 28 = .ok (.istore 5, 2) := by decide +kernel
theorem dX9_engrave_30 : decode t_X9_engrave.2.1 30 = .ok (.iload 5, 2) := by decide +kernel
theorem dX9_engrave_32 : decode t_X9_engrave.2.1 32 = .ok (.ifCond .eq 6, 3) := by decide +kernel
theorem dX9_engrave_35 : decode t_X9_engrave.2.1 35 = .ok (.iload 5, 2) := by decide +kernel
theorem dX9_engrave_37 : decode t_X9_engrave.2.1 37 = .ok (.ireturn, 1) := by decide +kernel
theorem dX9_engrave_38 : decode t_X9_engrave.2.1 38 = .ok (.aload_n 0, 1) := by decide +kernel
theorem dX9_engrave_39 : decode t_X9_engrave.2.1 39 = .ok (.getfield 14, 3) := by decide +kernel
theorem gX9_engrave_39 : wm_gf t_X9_engrave 39 9 0 := ⟨_, _, _, 14, rfl, by decide, wd_346, dX9_engrave_39⟩
theorem dX9_engrave_42 : decode t_X9_engrave.2.1 42 = .ok (.iload 4, 2) := by decide +kernel
theorem dX9_engrave_44 : decode t_X9_engrave.2.1 44 = .ok (.invokevirtual 147, 3) := by decide +kernel
theorem iX9_engrave_44 : wm_iv t_X9_engrave t_X5_size 44 := ⟨147, wd_476, dX9_engrave_44⟩
theorem dX9_engrave_47 : decode t_X9_engrave.2.1 47 = .ok (.aload_n 0, 1) := by decide +kernel
theorem dX9_engrave_48 : decode t_X9_engrave.2.1 48 = .ok (.getfield 24, 3) := by decide +kernel
theorem gX9_engrave_48 : wm_gf t_X9_engrave 48 9 2 := ⟨_, _, _, 24, rfl, by decide, wd_348, dX9_engrave_48⟩
theorem dX9_engrave_51 : decode t_X9_engrave.2.1 51 = .ok (.iload_n 2, 1) := by decide +kernel
theorem dX9_engrave_52 : decode t_X9_engrave.2.1 52 = .ok (.invokevirtual 201, 3) := by decide +kernel
theorem iX9_engrave_52 : wm_iv t_X9_engrave t_X4_length 52 := ⟨201, wd_694, dX9_engrave_52⟩
theorem dX9_engrave_55 : decode t_X9_engrave.2.1 55 = .ok (.if_icmp .eq 9, 3) := by decide +kernel
theorem dX9_engrave_58 : decode t_X9_engrave.2.1 58 = .ok (.aload_n 0, 1) := by decide +kernel
theorem dX9_engrave_59 : decode t_X9_engrave.2.1 59 = .ok (.iconst 5, 1) := by decide +kernel
theorem dX9_engrave_60 : decode t_X9_engrave.2.1 60 = .ok (.invokevirtual 132, 3) := by decide +kernel
theorem iX9_engrave_60 : wm_iv t_X9_engrave t_X9_find 60 := ⟨132, wd_401, dX9_engrave_60⟩
theorem dX9_engrave_63 : decode t_X9_engrave.2.1 63 = .ok (.ireturn, 1) := by decide +kernel
theorem dX9_engrave_64 : decode t_X9_engrave.2.1 64 = .ok (.aload_n 0, 1) := by decide +kernel
theorem dX9_engrave_65 : decode t_X9_engrave.2.1 65 = .ok (.iload 4, 2) := by decide +kernel
theorem dX9_engrave_67 : decode t_X9_engrave.2.1 67 = .ok (.iconst (-1), 1) := by decide +kernel
theorem dX9_engrave_68 : decode t_X9_engrave.2.1 68 = .ok (.invokevirtual 189, 3) := by decide +kernel
theorem iX9_engrave_68 : wm_iv t_X9_engrave t_X9_holdsWords 68 := ⟨189, wd_672, dX9_engrave_68⟩
theorem dX9_engrave_71 : decode t_X9_engrave.2.1 71 = .ok (.ifCond .ne 9, 3) := by decide +kernel
theorem dX9_engrave_74 : decode t_X9_engrave.2.1 74 = .ok (.aload_n 0, 1) := by decide +kernel
theorem dX9_engrave_75 : decode t_X9_engrave.2.1 75 = .ok (.iconst 3, 1) := by decide +kernel
theorem dX9_engrave_76 : decode t_X9_engrave.2.1 76 = .ok (.invokevirtual 132, 3) := by decide +kernel
theorem iX9_engrave_76 : wm_iv t_X9_engrave t_X9_find 76 := ⟨132, wd_401, dX9_engrave_76⟩
theorem dX9_engrave_79 : decode t_X9_engrave.2.1 79 = .ok (.ireturn, 1) := by decide +kernel
theorem dX9_engrave_80 : decode t_X9_engrave.2.1 80 = .ok (.aload_n 0, 1) := by decide +kernel
theorem dX9_engrave_81 : decode t_X9_engrave.2.1 81 = .ok (.getfield 61, 3) := by decide +kernel
theorem gX9_engrave_81 : wm_gf t_X9_engrave 81 9 7 := ⟨_, _, _, 61, rfl, by decide, wd_353, dX9_engrave_81⟩
theorem dX9_engrave_84 : decode t_X9_engrave.2.1 84 = .ok (.getfield 292, 3) := by decide +kernel
theorem wd_268 : Cond.fieldLink RX9 292 "TurnedStones$Records" "number" "I" ∈ lw_gd := List.mem_filter.mpr ⟨List.mem_of_getElem? (i := 268) (by decide +kernel), by decide +kernel⟩
theorem gX9_engrave_84 : wm_gf t_X9_engrave 84 2 0 := ⟨_, _, _, 292, rfl, by decide, wd_268, dX9_engrave_84⟩
theorem dX9_engrave_87 : decode t_X9_engrave.2.1 87 = .ok (.iconst 4, 1) := by decide +kernel
theorem dX9_engrave_88 : decode t_X9_engrave.2.1 88 = .ok (.if_icmp .lt 6, 3) := by decide +kernel
theorem dX9_engrave_91 : decode t_X9_engrave.2.1 91 = .ok (.bipush (-2), 2) := by decide +kernel
theorem dX9_engrave_93 : decode t_X9_engrave.2.1 93 = .ok (.ireturn, 1) := by decide +kernel
theorem dX9_engrave_94 : decode t_X9_engrave.2.1 94 = .ok (.aload_n 0, 1) := by decide +kernel
theorem dX9_engrave_95 : decode t_X9_engrave.2.1 95 = .ok (.getfield 61, 3) := by decide +kernel
theorem gX9_engrave_95 : wm_gf t_X9_engrave 95 9 7 := ⟨_, _, _, 61, rfl, by decide, wd_353, dX9_engrave_95⟩
theorem dX9_engrave_98 : decode t_X9_engrave.2.1 98 = .ok (.iload_n 1, 1) := by decide +kernel
theorem dX9_engrave_99 : decode t_X9_engrave.2.1 99 = .ok (.iload_n 2, 1) := by decide +kernel
theorem dX9_engrave_100 : decode t_X9_engrave.2.1 100 = .ok (.iload_n 3, 1) := by decide +kernel
theorem dX9_engrave_101 : decode t_X9_engrave.2.1 101 = .ok (.aload_n 0, 1) := by decide +kernel
theorem dX9_engrave_102 : decode t_X9_engrave.2.1 102 = .ok (.getfield 14, 3) := by decide +kernel
theorem gX9_engrave_102 : wm_gf t_X9_engrave 102 9 0 := ⟨_, _, _, 14, rfl, by decide, wd_346, dX9_engrave_102⟩
theorem dX9_engrave_105 : decode t_X9_engrave.2.1 105 = .ok (.iload 4, 2) := by decide +kernel
theorem dX9_engrave_107 : decode t_X9_engrave.2.1 107 = .ok (.invokevirtual 294, 3) := by decide +kernel
theorem wd_933 : Cond.methodLink RX9 294 yX2_add ∈ lw_gd := List.mem_filter.mpr ⟨List.mem_of_getElem? (i := 933) (by decide +kernel), by decide +kernel⟩
theorem iX9_engrave_107 : wm_iv t_X9_engrave t_X2_add 107 := ⟨294, wd_933, dX9_engrave_107⟩
theorem dX9_engrave_110 : decode t_X9_engrave.2.1 110 = .ok (.ireturn, 1) := by decide +kernel
theorem wd_941 : Cond.code yX9_lose cX9_lose 3 (some .int) ∈ lw_gd := List.mem_filter.mpr ⟨List.mem_of_getElem? (i := 941) (by decide +kernel), by decide +kernel⟩
theorem wd_939 : Cond.instanceMethod yX9_lose ∈ lw_gd := List.mem_filter.mpr ⟨List.mem_of_getElem? (i := 939) (by decide +kernel), by decide +kernel⟩
theorem wd_940 : Cond.selects RX9 yX9_lose yX9_lose ∈ lw_gd := List.mem_filter.mpr ⟨List.mem_of_getElem? (i := 940) (by decide +kernel), by decide +kernel⟩
theorem vX9_lose : wm_calV t_X9_lose 1 := ⟨⟨wd_941, wd_77, by decide +kernel, by decide +kernel, by decide +kernel⟩, wd_939, wd_940⟩
theorem dX9_lose_0 : decode t_X9_lose.2.1 0 = .ok (.iload_n 1, 1) := by decide +kernel
theorem dX9_lose_1 : decode t_X9_lose.2.1 1 = .ok (.ifCond .lt 14, 3) := by decide +kernel
theorem dX9_lose_4 : decode t_X9_lose.2.1 4 = .ok (.iload_n 1, 1) := by decide +kernel
theorem dX9_lose_5 : decode t_X9_lose.2.1 5 = .ok (.aload_n 0, 1) := by decide +kernel
theorem dX9_lose_6 : decode t_X9_lose.2.1 6 = .ok (.getfield 61, 3) := by decide +kernel
theorem gX9_lose_6 : wm_gf t_X9_lose 6 9 7 := ⟨_, _, _, 61, rfl, by decide, wd_353, dX9_lose_6⟩
theorem dX9_lose_9 : decode t_X9_lose.2.1 9 = .ok (.getfield 292, 3) := by decide +kernel
theorem gX9_lose_9 : wm_gf t_X9_lose 9 2 0 := ⟨_, _, _, 292, rfl, by decide, wd_268, dX9_lose_9⟩
theorem dX9_lose_12 : decode t_X9_lose.2.1 12 = .ok (.if_icmp .le 5, 3) := by decide +kernel
theorem dX9_lose_15 : decode t_X9_lose.2.1 15 = .ok (.iconst (-1), 1) := by decide +kernel
theorem dX9_lose_16 : decode t_X9_lose.2.1 16 = .ok (.ireturn, 1) := by decide +kernel
theorem dX9_lose_17 : decode t_X9_lose.2.1 17 = .ok (.aload_n 0, 1) := by decide +kernel
theorem dX9_lose_18 : decode t_X9_lose.2.1 18 = .ok (.getfield 61, 3) := by decide +kernel
theorem gX9_lose_18 : wm_gf t_X9_lose 18 9 7 := ⟨_, _, _, 61, rfl, by decide, wd_353, dX9_lose_18⟩
theorem dX9_lose_21 : decode t_X9_lose.2.1 21 = .ok (.getfield 292, 3) := by decide +kernel
theorem gX9_lose_21 : wm_gf t_X9_lose 21 2 0 := ⟨_, _, _, 292, rfl, by decide, wd_268, dX9_lose_21⟩
theorem dX9_lose_24 : decode t_X9_lose.2.1 24 = .ok (.istore_n 2, 1) := by decide +kernel
theorem dX9_lose_25 : decode t_X9_lose.2.1 25 = .ok (.aload_n 0, 1) := by decide +kernel
theorem dX9_lose_26 : decode t_X9_lose.2.1 26 = .ok (.getfield 61, 3) := by decide +kernel
theorem gX9_lose_26 : wm_gf t_X9_lose 26 9 7 := ⟨_, _, _, 61, rfl, by decide, wd_353, dX9_lose_26⟩
theorem dX9_lose_29 : decode t_X9_lose.2.1 29 = .ok (.iload_n 1, 1) := by decide +kernel
theorem dX9_lose_30 : decode t_X9_lose.2.1 30 = .ok (.invokevirtual 156, 3) := by decide +kernel
theorem iX9_lose_30 : wm_iv t_X9_lose t_X2_dropFrom 30 := ⟨156, wd_553, dX9_lose_30⟩
theorem dX9_lose_33 : decode t_X9_lose.2.1 33 = .ok (.iload_n 2, 1) := by decide +kernel
theorem dX9_lose_34 : decode t_X9_lose.2.1 34 = .ok (.iload_n 1, 1) := by decide +kernel
theorem dX9_lose_35 : decode t_X9_lose.2.1 35 = .ok (.isub, 1) := by decide +kernel
theorem dX9_lose_36 : decode t_X9_lose.2.1 36 = .ok (.ireturn, 1) := by decide +kernel
theorem wd_945 : Cond.code yX9_histories cX9_histories 2 (some .int) ∈ lw_gd := List.mem_filter.mpr ⟨List.mem_of_getElem? (i := 945) (by decide +kernel), by decide +kernel⟩
theorem wd_943 : Cond.instanceMethod yX9_histories ∈ lw_gd := List.mem_filter.mpr ⟨List.mem_of_getElem? (i := 943) (by decide +kernel), by decide +kernel⟩
theorem wd_944 : Cond.selects RX9 yX9_histories yX9_histories ∈ lw_gd := List.mem_filter.mpr ⟨List.mem_of_getElem? (i := 944) (by decide +kernel), by decide +kernel⟩
theorem vX9_histories : wm_calV t_X9_histories 1 := ⟨⟨wd_945, wd_77, by decide +kernel, by decide +kernel, by decide +kernel⟩, wd_943, wd_944⟩
theorem dX9_histories_0 : decode t_X9_histories.2.1 0 = .ok (.iload_n 1, 1) := by decide +kernel
theorem dX9_histories_1 : decode t_X9_histories.2.1 1 = .ok (.invokestatic 289, 3) := by decide +kernel
theorem iX9_histories_1 : wm_is t_X9_histories t_X9_isToldYear 1 := ⟨289, wd_930, dX9_histories_1⟩
theorem dX9_histories_4 : decode t_X9_histories.2.1 4 = .ok (.ifCond .ne 5, 3) := by decide +kernel
theorem dX9_histories_7 : decode t_X9_histories.2.1 7 = .ok (.iconst (-1), 1) := by decide +kernel
theorem dX9_histories_8 : decode t_X9_histories.2.1 8 = .ok (.ireturn, 1) := by decide +kernel
theorem dX9_histories_9 : decode t_X9_histories.2.1 9 = .ok (.aload_n 0, 1) := by decide +kernel
theorem dX9_histories_10 : decode t_X9_histories.2.1 10 = .ok (.getfield 70, 3) := by decide +kernel
theorem wd_354 : Cond.fieldLink RX9 70 "TurnedStones" "past" "LTurnedStones$Past;" ∈ lw_gd := List.mem_filter.mpr ⟨List.mem_of_getElem? (i := 354) (by decide +kernel), by decide +kernel⟩
theorem gX9_histories_10 : wm_gf t_X9_histories 10 9 8 := ⟨_, _, _, 70, rfl, by decide, wd_354, dX9_histories_10⟩
theorem dX9_histories_13 : decode t_X9_histories.2.1 13 = .ok (.iload_n 1, 1) := by decide +kernel
theorem dX9_histories_14 : decode t_X9_histories.2.1 14 = .ok (.invokevirtual 298, 3) := by decide +kernel
theorem wd_946 : Cond.methodLink RX9 298 yX1_isTold ∈ lw_gd := List.mem_filter.mpr ⟨List.mem_of_getElem? (i := 946) (by decide +kernel), by decide +kernel⟩
theorem iX9_histories_14 : wm_iv t_X9_histories t_X1_isTold 14 := ⟨298, wd_946, dX9_histories_14⟩
theorem dX9_histories_17 : decode t_X9_histories.2.1 17 = .ok (.ifCond .ne 9, 3) := by decide +kernel
theorem dX9_histories_20 : decode t_X9_histories.2.1 20 = .ok (.aload_n 0, 1) := by decide +kernel
theorem dX9_histories_21 : decode t_X9_histories.2.1 21 = .ok (.iconst 4, 1) := by decide +kernel
theorem dX9_histories_22 : decode t_X9_histories.2.1 22 = .ok (.invokevirtual 132, 3) := by decide +kernel
theorem iX9_histories_22 : wm_iv t_X9_histories t_X9_find 22 := ⟨132, wd_401, dX9_histories_22⟩
theorem dX9_histories_25 : decode t_X9_histories.2.1 25 = .ok (.ireturn, 1) := by decide +kernel
theorem dX9_histories_26 : decode t_X9_histories.2.1 26 = .ok (.aload_n 0, 1) := by decide +kernel
theorem dX9_histories_27 : decode t_X9_histories.2.1 27 = .ok (.getfield 77, 3) := by decide +kernel
theorem gX9_histories_27 : wm_gf t_X9_histories 27 9 9 := ⟨_, _, _, 77, rfl, by decide, wd_355, dX9_histories_27⟩
theorem dX9_histories_30 : decode t_X9_histories.2.1 30 = .ok (.aload_n 0, 1) := by decide +kernel
theorem dX9_histories_31 : decode t_X9_histories.2.1 31 = .ok (.getfield 70, 3) := by decide +kernel
theorem gX9_histories_31 : wm_gf t_X9_histories 31 9 8 := ⟨_, _, _, 70, rfl, by decide, wd_354, dX9_histories_31⟩
theorem dX9_histories_34 : decode t_X9_histories.2.1 34 = .ok (.iload_n 1, 1) := by decide +kernel
theorem dX9_histories_35 : decode t_X9_histories.2.1 35 = .ok (.invokevirtual 301, 3) := by decide +kernel
theorem wd_981 : Cond.methodLink RX9 301 yX1_allWays ∈ lw_gd := List.mem_filter.mpr ⟨List.mem_of_getElem? (i := 981) (by decide +kernel), by decide +kernel⟩
theorem iX9_histories_35 : wm_iv t_X9_histories t_X1_allWays 35 := ⟨301, wd_981, dX9_histories_35⟩
theorem dX9_histories_38 : decode t_X9_histories.2.1 38 = .ok (.i2l, 1) := by decide +kernel
theorem dX9_histories_39 : decode t_X9_histories.2.1 39 = .ok (.lconst 1, 1) := by decide +kernel
theorem dX9_histories_40 : decode t_X9_histories.2.1 40 = .ok (.invokevirtual 260, 3) := by decide +kernel
theorem iX9_histories_40 : wm_iv t_X9_histories t_X6_fraction 40 := ⟨260, wd_866, dX9_histories_40⟩
theorem dX9_histories_43 : decode t_X9_histories.2.1 43 = .ok (.iconst 1, 1) := by decide +kernel
theorem dX9_histories_44 : decode t_X9_histories.2.1 44 = .ok (.ireturn, 1) := by decide +kernel
theorem wd_1017 : Cond.code yX9_when cX9_when 7 (some .int) ∈ lw_gd := List.mem_filter.mpr ⟨List.mem_of_getElem? (i := 1017) (by decide +kernel), by decide +kernel⟩
theorem wd_1015 : Cond.instanceMethod yX9_when ∈ lw_gd := List.mem_filter.mpr ⟨List.mem_of_getElem? (i := 1015) (by decide +kernel), by decide +kernel⟩
theorem wd_1016 : Cond.selects RX9 yX9_when yX9_when ∈ lw_gd := List.mem_filter.mpr ⟨List.mem_of_getElem? (i := 1016) (by decide +kernel), by decide +kernel⟩
theorem vX9_when : wm_calV t_X9_when 2 := ⟨⟨wd_1017, wd_77, by decide +kernel, by decide +kernel, by decide +kernel⟩, wd_1015, wd_1016⟩
theorem dX9_when_0 : decode t_X9_when.2.1 0 = .ok (.iload_n 1, 1) := by decide +kernel
theorem dX9_when_1 : decode t_X9_when.2.1 1 = .ok (.invokestatic 289, 3) := by decide +kernel
theorem iX9_when_1 : wm_is t_X9_when t_X9_isToldYear 1 := ⟨289, wd_930, dX9_when_1⟩
theorem dX9_when_4 : decode t_X9_when.2.1 4 = .ok (.ifCond .ne 5, 3) := by decide +kernel
theorem dX9_when_7 : decode t_X9_when.2.1 7 = .ok (.iconst (-1), 1) := by decide +kernel
theorem dX9_when_8 : decode t_X9_when.2.1 8 = .ok (.ireturn, 1) := by decide +kernel
theorem dX9_when_9 : decode t_X9_when.2.1 9 = .ok (.aload_n 0, 1) := by decide +kernel
theorem dX9_when_10 : decode t_X9_when.2.1 10 = .ok (.aload_n 0, 1) := by decide +kernel
theorem dX9_when_11 : decode t_X9_when.2.1 11 = .ok (.getfield 45, 3) := by decide +kernel
theorem gX9_when_11 : wm_gf t_X9_when 11 9 5 := ⟨_, _, _, 45, rfl, by decide, wd_351, dX9_when_11⟩
theorem dX9_when_14 : decode t_X9_when.2.1 14 = .ok (.getfield 186, 3) := by decide +kernel
theorem gX9_when_14 : wm_gf t_X9_when 14 0 0 := ⟨_, _, _, 186, rfl, by decide, wd_205, dX9_when_14⟩
theorem dX9_when_17 : decode t_X9_when.2.1 17 = .ok (.iload_n 2, 1) := by decide +kernel
theorem dX9_when_18 : decode t_X9_when.2.1 18 = .ok (.invokevirtual 120, 3) := by decide +kernel
theorem iX9_when_18 : wm_iv t_X9_when t_X9_refusal 18 := ⟨120, wd_428, dX9_when_18⟩
theorem dX9_when_21 : decode t_X9_when.2.1 21 = .ok (.istore_n 3, 1) := by decide +kernel
theorem dX9_when_22 : decode t_X9_when.2.1 22 = .ok (.iload_n 3, 1) := by decide +kernel
theorem dX9_when_23 : decode t_X9_when.2.1 23 = .ok (.ifCond .eq 5, 3) := by decide +kernel
theorem dX9_when_26 : decode t_X9_when.2.1 26 = .ok (.iload_n 3, 1) := by decide +kernel
theorem dX9_when_27 : decode t_X9_when.2.1 27 = .ok (.ireturn, 1) := by decide +kernel
theorem dX9_when_28 : decode t_X9_when.2.1 28 = .ok (.aload_n 0, 1) := by decide +kernel
theorem dX9_when_29 : decode t_X9_when.2.1 29 = .ok (.getfield 70, 3) := by decide +kernel
theorem gX9_when_29 : wm_gf t_X9_when 29 9 8 := ⟨_, _, _, 70, rfl, by decide, wd_354, dX9_when_29⟩
theorem dX9_when_32 : decode t_X9_when.2.1 32 = .ok (.iload_n 1, 1) := by decide +kernel
theorem dX9_when_33 : decode t_X9_when.2.1 33 = .ok (.invokevirtual 298, 3) := by decide +kernel
theorem iX9_when_33 : wm_iv t_X9_when t_X1_isTold 33 := ⟨298, wd_946, dX9_when_33⟩
theorem dX9_when_36 : decode t_X9_when.2.1 36 = .ok (.ifCond .ne 9, 3) := by decide +kernel
theorem dX9_when_39 : decode t_X9_when.2.1 39 = .ok (.aload_n 0, 1) := by decide +kernel
theorem dX9_when_40 : decode t_X9_when.2.1 40 = .ok (.iconst 4, 1) := by decide +kernel
theorem dX9_when_41 : decode t_X9_when.2.1 41 = .ok (.invokevirtual 132, 3) := by decide +kernel
theorem iX9_when_41 : wm_iv t_X9_when t_X9_find 41 := ⟨132, wd_401, dX9_when_41⟩
theorem dX9_when_44 : decode t_X9_when.2.1 44 = .ok (.ireturn, 1) := by decide +kernel
theorem dX9_when_45 : decode t_X9_when.2.1 45 = .ok (.iconst 0, 1) := by decide +kernel
theorem dX9_when_46 : decode t_X9_when.2.1 46 = .ok (.istore 4, 2) := by decide +kernel
theorem dX9_when_48 : decode t_X9_when.2.1 48 = .ok (.iconst 0, 1) := by decide +kernel
theorem dX9_when_49 : decode t_X9_when.2.1 49 = .ok (.istore 5, 2) := by decide +kernel
theorem dX9_when_51 : decode t_X9_when.2.1 51 = .ok (.iconst 0, 1) := by decide +kernel
theorem dX9_when_52 : decode t_X9_when.2.1 52 = .ok (.istore 6, 2) := by decide +kernel
theorem dX9_when_54 : decode t_X9_when.2.1 54 = .ok (.iload 6, 2) := by decide +kernel
theorem dX9_when_56 : decode t_X9_when.2.1 56 = .ok (.iload_n 1, 1) := by decide +kernel
theorem dX9_when_57 : decode t_X9_when.2.1 57 = .ok (.if_icmp .gt 77, 3) := by decide +kernel
theorem dX9_when_60 : decode t_X9_when.2.1 60 = .ok (.aload_n 0, 1) := by decide +kernel
theorem dX9_when_61 : decode t_X9_when.2.1 61 = .ok (.getfield 70, 3) := by decide +kernel
theorem gX9_when_61 : wm_gf t_X9_when 61 9 8 := ⟨_, _, _, 70, rfl, by decide, wd_354, dX9_when_61⟩
theorem dX9_when_64 : decode t_X9_when.2.1 64 = .ok (.getfield 304, 3) := by decide +kernel
theorem wd_296 : Cond.fieldLink RX9 304 "TurnedStones$Past" "live" "[LTurnedStones$StateSet;" ∈ lw_gd := List.mem_filter.mpr ⟨List.mem_of_getElem? (i := 296) (by decide +kernel), by decide +kernel⟩
theorem gX9_when_64 : wm_gf t_X9_when 64 1 0 := ⟨_, _, _, 304, rfl, by decide, wd_296, dX9_when_64⟩
theorem dX9_when_67 : decode t_X9_when.2.1 67 = .ok (.iload 6, 2) := by decide +kernel
theorem dX9_when_69 : decode t_X9_when.2.1 69 = .ok (.aaload, 1) := by decide +kernel
theorem dX9_when_70 : decode t_X9_when.2.1 70 = .ok (.aload_n 0, 1) := by decide +kernel
theorem dX9_when_71 : decode t_X9_when.2.1 71 = .ok (.getfield 45, 3) := by decide +kernel
theorem gX9_when_71 : wm_gf t_X9_when 71 9 5 := ⟨_, _, _, 45, rfl, by decide, wd_351, dX9_when_71⟩
theorem dX9_when_74 : decode t_X9_when.2.1 74 = .ok (.getfield 232, 3) := by decide +kernel
theorem gX9_when_74 : wm_gf t_X9_when 74 0 1 := ⟨_, _, _, 232, rfl, by decide, wd_208, dX9_when_74⟩
theorem dX9_when_77 : decode t_X9_when.2.1 77 = .ok (.iload_n 2, 1) := by decide +kernel
theorem dX9_when_78 : decode t_X9_when.2.1 78 = .ok (.aaload, 1) := by decide +kernel
theorem dX9_when_79 : decode t_X9_when.2.1 79 = .ok (.invokevirtual 307, 3) := by decide +kernel
theorem wd_1018 : Cond.methodLink RX9 307 yX3_isWithin ∈ lw_gd := List.mem_filter.mpr ⟨List.mem_of_getElem? (i := 1018) (by decide +kernel), by decide +kernel⟩
theorem iX9_when_79 : wm_iv t_X9_when t_X3_isWithin 79 := ⟨307, wd_1018, dX9_when_79⟩
theorem dX9_when_82 : decode t_X9_when.2.1 82 = .ok (.ifCond .eq 12, 3) := by decide +kernel
theorem dX9_when_85 : decode t_X9_when.2.1 85 = .ok (.iload 4, 2) := by decide +kernel
theorem dX9_when_87 : decode t_X9_when.2.1 87 = .ok (.iconst 1, 1) := by decide +kernel
theorem dX9_when_88 : decode t_X9_when.2.1 88 = .ok (.iload 6, 2) := by decide +kernel
theorem dX9_when_90 : decode t_X9_when.2.1 90 = .ok (.ishl, 1) := by decide +kernel
theorem dX9_when_91 : decode t_X9_when.2.1 91 = .ok (.ior, 1) := by decide +kernel
theorem dX9_when_92 : decode t_X9_when.2.1 92 = .ok (.istore 4, 2) := by decide +kernel
theorem dX9_when_94 : decode t_X9_when.2.1 94 = .ok (.aload_n 0, 1) := by decide +kernel
theorem dX9_when_95 : decode t_X9_when.2.1 95 = .ok (.getfield 70, 3) := by decide +kernel
theorem gX9_when_95 : wm_gf t_X9_when 95 9 8 := ⟨_, _, _, 70, rfl, by decide, wd_354, dX9_when_95⟩
theorem dX9_when_98 : decode t_X9_when.2.1 98 = .ok (.getfield 304, 3) := by decide +kernel
theorem gX9_when_98 : wm_gf t_X9_when 98 1 0 := ⟨_, _, _, 304, rfl, by decide, wd_296, dX9_when_98⟩
theorem dX9_when_101 : decode t_X9_when.2.1 101 = .ok (.iload 6, 2) := by decide +kernel
theorem dX9_when_103 : decode t_X9_when.2.1 103 = .ok (.aaload, 1) := by decide +kernel
theorem dX9_when_104 : decode t_X9_when.2.1 104 = .ok (.aload_n 0, 1) := by decide +kernel
theorem dX9_when_105 : decode t_X9_when.2.1 105 = .ok (.getfield 45, 3) := by decide +kernel
theorem gX9_when_105 : wm_gf t_X9_when 105 9 5 := ⟨_, _, _, 45, rfl, by decide, wd_351, dX9_when_105⟩
theorem dX9_when_108 : decode t_X9_when.2.1 108 = .ok (.getfield 232, 3) := by decide +kernel
theorem gX9_when_108 : wm_gf t_X9_when 108 0 1 := ⟨_, _, _, 232, rfl, by decide, wd_208, dX9_when_108⟩
theorem dX9_when_111 : decode t_X9_when.2.1 111 = .ok (.iload_n 2, 1) := by decide +kernel
theorem dX9_when_112 : decode t_X9_when.2.1 112 = .ok (.aaload, 1) := by decide +kernel
theorem dX9_when_113 : decode t_X9_when.2.1 113 = .ok (.invokevirtual 311, 3) := by decide +kernel
theorem wd_1022 : Cond.methodLink RX9 311 yX3_meets ∈ lw_gd := List.mem_filter.mpr ⟨List.mem_of_getElem? (i := 1022) (by decide +kernel), by decide +kernel⟩
theorem iX9_when_113 : wm_iv t_X9_when t_X3_meets 113 := ⟨311, wd_1022, dX9_when_113⟩
theorem dX9_when_116 : decode t_X9_when.2.1 116 = .ok (.ifCond .eq 12, 3) := by decide +kernel
theorem dX9_when_119 : decode t_X9_when.2.1 119 = .ok (.iload 5, 2) := by decide +kernel
theorem dX9_when_121 : decode t_X9_when.2.1 121 = .ok (.iconst 1, 1) := by decide +kernel
theorem dX9_when_122 : decode t_X9_when.2.1 122 = .ok (.iload 6, 2) := by decide +kernel
theorem dX9_when_124 : decode t_X9_when.2.1 124 = .ok (.ishl, 1) := by decide +kernel
theorem dX9_when_125 : decode t_X9_when.2.1 125 = .ok (.ior, 1) := by decide +kernel
theorem dX9_when_126 : decode t_X9_when.2.1 126 = .ok (.istore 5, 2) := by decide +kernel
theorem dX9_when_128 : decode t_X9_when.2.1 128 = .ok (.iinc 6 1, 3) := by decide +kernel
theorem dX9_when_131 : decode t_X9_when.2.1 131 = .ok (.goto (-77), 3) := by decide +kernel
theorem dX9_when_134 : decode t_X9_when.2.1 134 = .ok (.aload_n 0, 1) := by decide +kernel
theorem dX9_when_135 : decode t_X9_when.2.1 135 = .ok (.getfield 77, 3) := by decide +kernel
theorem gX9_when_135 : wm_gf t_X9_when 135 9 9 := ⟨_, _, _, 77, rfl, by decide, wd_355, dX9_when_135⟩
theorem dX9_when_138 : decode t_X9_when.2.1 138 = .ok (.iload 5, 2) := by decide +kernel
theorem dX9_when_140 : decode t_X9_when.2.1 140 = .ok (.putfield 113, 3) := by decide +kernel
theorem gX9_when_140 : wm_pf t_X9_when 140 6 0 .int := ⟨_, _, _, 113, rfl, by decide, wd_325, dX9_when_140, rfl, by decide +kernel⟩
theorem dX9_when_143 : decode t_X9_when.2.1 143 = .ok (.iload 4, 2) := by decide +kernel
theorem dX9_when_145 : decode t_X9_when.2.1 145 = .ok (.ireturn, 1) := by decide +kernel
theorem wd_1030 : Cond.code yX9_turned cX9_turned 3 (some .int) ∈ lw_gd := List.mem_filter.mpr ⟨List.mem_of_getElem? (i := 1030) (by decide +kernel), by decide +kernel⟩
theorem wd_1028 : Cond.instanceMethod yX9_turned ∈ lw_gd := List.mem_filter.mpr ⟨List.mem_of_getElem? (i := 1028) (by decide +kernel), by decide +kernel⟩
theorem wd_1029 : Cond.selects RX9 yX9_turned yX9_turned ∈ lw_gd := List.mem_filter.mpr ⟨List.mem_of_getElem? (i := 1029) (by decide +kernel), by decide +kernel⟩
theorem vX9_turned : wm_calV t_X9_turned 2 := ⟨⟨wd_1030, wd_77, by decide +kernel, by decide +kernel, by decide +kernel⟩, wd_1028, wd_1029⟩
theorem dX9_turned_0 : decode t_X9_turned.2.1 0 = .ok (.iload_n 1, 1) := by decide +kernel
theorem dX9_turned_1 : decode t_X9_turned.2.1 1 = .ok (.invokestatic 289, 3) := by decide +kernel
theorem iX9_turned_1 : wm_is t_X9_turned t_X9_isToldYear 1 := ⟨289, wd_930, dX9_turned_1⟩
theorem dX9_turned_4 : decode t_X9_turned.2.1 4 = .ok (.ifCond .eq 13, 3) := by decide +kernel
theorem dX9_turned_7 : decode t_X9_turned.2.1 7 = .ok (.iload_n 2, 1) := by decide +kernel
theorem dX9_turned_8 : decode t_X9_turned.2.1 8 = .ok (.iconst 1, 1) := by decide +kernel
theorem dX9_turned_9 : decode t_X9_turned.2.1 9 = .ok (.if_icmp .lt 8, 3) := by decide +kernel
theorem dX9_turned_12 : decode t_X9_turned.2.1 12 = .ok (.iload_n 2, 1) := by decide +kernel
theorem dX9_turned_13 : decode t_X9_turned.2.1 13 = .ok (.iload_n 1, 1) := by decide +kernel
theorem dX9_turned_14 : decode t_X9_turned.2.1 14 = .ok (.if_icmp .le 5, 3) := by decide +kernel
theorem dX9_turned_17 : decode t_X9_turned.2.1 17 = .ok (.iconst (-1), 1) := by decide +kernel
theorem dX9_turned_18 : decode t_X9_turned.2.1 18 = .ok (.ireturn, 1) := by decide +kernel
theorem dX9_turned_19 : decode t_X9_turned.2.1 19 = .ok (.aload_n 0, 1) := by decide +kernel
theorem dX9_turned_20 : decode t_X9_turned.2.1 20 = .ok (.getfield 70, 3) := by decide +kernel
theorem gX9_turned_20 : wm_gf t_X9_turned 20 9 8 := ⟨_, _, _, 70, rfl, by decide, wd_354, dX9_turned_20⟩
theorem dX9_turned_23 : decode t_X9_turned.2.1 23 = .ok (.iload_n 1, 1) := by decide +kernel
theorem dX9_turned_24 : decode t_X9_turned.2.1 24 = .ok (.invokevirtual 298, 3) := by decide +kernel
theorem iX9_turned_24 : wm_iv t_X9_turned t_X1_isTold 24 := ⟨298, wd_946, dX9_turned_24⟩
theorem dX9_turned_27 : decode t_X9_turned.2.1 27 = .ok (.ifCond .ne 9, 3) := by decide +kernel
theorem dX9_turned_30 : decode t_X9_turned.2.1 30 = .ok (.aload_n 0, 1) := by decide +kernel
theorem dX9_turned_31 : decode t_X9_turned.2.1 31 = .ok (.iconst 4, 1) := by decide +kernel
theorem dX9_turned_32 : decode t_X9_turned.2.1 32 = .ok (.invokevirtual 132, 3) := by decide +kernel
theorem iX9_turned_32 : wm_iv t_X9_turned t_X9_find 32 := ⟨132, wd_401, dX9_turned_32⟩
theorem dX9_turned_35 : decode t_X9_turned.2.1 35 = .ok (.ireturn, 1) := by decide +kernel
theorem dX9_turned_36 : decode t_X9_turned.2.1 36 = .ok (.aload_n 0, 1) := by decide +kernel
theorem dX9_turned_37 : decode t_X9_turned.2.1 37 = .ok (.getfield 77, 3) := by decide +kernel
theorem gX9_turned_37 : wm_gf t_X9_turned 37 9 9 := ⟨_, _, _, 77, rfl, by decide, wd_355, dX9_turned_37⟩
theorem dX9_turned_40 : decode t_X9_turned.2.1 40 = .ok (.aload_n 0, 1) := by decide +kernel
theorem dX9_turned_41 : decode t_X9_turned.2.1 41 = .ok (.getfield 70, 3) := by decide +kernel
theorem gX9_turned_41 : wm_gf t_X9_turned 41 9 8 := ⟨_, _, _, 70, rfl, by decide, wd_354, dX9_turned_41⟩
theorem dX9_turned_44 : decode t_X9_turned.2.1 44 = .ok (.getfield 304, 3) := by decide +kernel
theorem gX9_turned_44 : wm_gf t_X9_turned 44 1 0 := ⟨_, _, _, 304, rfl, by decide, wd_296, dX9_turned_44⟩
theorem dX9_turned_47 : decode t_X9_turned.2.1 47 = .ok (.iload_n 2, 1) := by decide +kernel
theorem dX9_turned_48 : decode t_X9_turned.2.1 48 = .ok (.iconst 1, 1) := by decide +kernel
theorem dX9_turned_49 : decode t_X9_turned.2.1 49 = .ok (.isub, 1) := by decide +kernel
theorem dX9_turned_50 : decode t_X9_turned.2.1 50 = .ok (.aaload, 1) := by decide +kernel
theorem dX9_turned_51 : decode t_X9_turned.2.1 51 = .ok (.aload_n 0, 1) := by decide +kernel
theorem dX9_turned_52 : decode t_X9_turned.2.1 52 = .ok (.getfield 70, 3) := by decide +kernel
theorem gX9_turned_52 : wm_gf t_X9_turned 52 9 8 := ⟨_, _, _, 70, rfl, by decide, wd_354, dX9_turned_52⟩
theorem dX9_turned_55 : decode t_X9_turned.2.1 55 = .ok (.getfield 304, 3) := by decide +kernel
theorem gX9_turned_55 : wm_gf t_X9_turned 55 1 0 := ⟨_, _, _, 304, rfl, by decide, wd_296, dX9_turned_55⟩
theorem dX9_turned_58 : decode t_X9_turned.2.1 58 = .ok (.iload_n 2, 1) := by decide +kernel
theorem dX9_turned_59 : decode t_X9_turned.2.1 59 = .ok (.aaload, 1) := by decide +kernel
theorem dX9_turned_60 : decode t_X9_turned.2.1 60 = .ok (.invokevirtual 311, 3) := by decide +kernel
theorem iX9_turned_60 : wm_iv t_X9_turned t_X3_meets 60 := ⟨311, wd_1022, dX9_turned_60⟩
theorem dX9_turned_63 : decode t_X9_turned.2.1 63 = .ok (.ifCond .eq 7, 3) := by decide +kernel
theorem dX9_turned_66 : decode t_X9_turned.2.1 66 = .ok (.iconst 1, 1) := by decide +kernel
theorem dX9_turned_67 : decode t_X9_turned.2.1 67 = .ok (.goto 4, 3) := by decide +kernel
theorem dX9_turned_70 : decode t_X9_turned.2.1 70 = .ok (.iconst 0, 1) := by decide +kernel
theorem dX9_turned_71 : decode t_X9_turned.2.1 71 = .ok (.putfield 113, 3) := by decide +kernel
theorem gX9_turned_71 : wm_pf t_X9_turned 71 6 0 .int := ⟨_, _, _, 113, rfl, by decide, wd_325, dX9_turned_71, rfl, by decide +kernel⟩
theorem dX9_turned_74 : decode t_X9_turned.2.1 74 = .ok (.aload_n 0, 1) := by decide +kernel
theorem dX9_turned_75 : decode t_X9_turned.2.1 75 = .ok (.getfield 70, 3) := by decide +kernel
theorem gX9_turned_75 : wm_gf t_X9_turned 75 9 8 := ⟨_, _, _, 70, rfl, by decide, wd_354, dX9_turned_75⟩
theorem dX9_turned_78 : decode t_X9_turned.2.1 78 = .ok (.iload_n 2, 1) := by decide +kernel
theorem dX9_turned_79 : decode t_X9_turned.2.1 79 = .ok (.invokevirtual 314, 3) := by decide +kernel
theorem wd_1031 : Cond.methodLink RX9 314 yX1_turnedInto ∈ lw_gd := List.mem_filter.mpr ⟨List.mem_of_getElem? (i := 1031) (by decide +kernel), by decide +kernel⟩
theorem iX9_turned_79 : wm_iv t_X9_turned t_X1_turnedInto 79 := ⟨314, wd_1031, dX9_turned_79⟩
theorem dX9_turned_82 : decode t_X9_turned.2.1 82 = .ok (.ireturn, 1) := by decide +kernel
theorem wd_1042 : Cond.code yX9_odds cX9_odds 5 (some .int) ∈ lw_gd := List.mem_filter.mpr ⟨List.mem_of_getElem? (i := 1042) (by decide +kernel), by decide +kernel⟩
theorem wd_1040 : Cond.instanceMethod yX9_odds ∈ lw_gd := List.mem_filter.mpr ⟨List.mem_of_getElem? (i := 1040) (by decide +kernel), by decide +kernel⟩
theorem wd_1041 : Cond.selects RX9 yX9_odds yX9_odds ∈ lw_gd := List.mem_filter.mpr ⟨List.mem_of_getElem? (i := 1041) (by decide +kernel), by decide +kernel⟩
theorem vX9_odds : wm_calV t_X9_odds 3 := ⟨⟨wd_1042, wd_77, by decide +kernel, by decide +kernel, by decide +kernel⟩, wd_1040, wd_1041⟩
theorem dX9_odds_0 : decode t_X9_odds.2.1 0 = .ok (.iload_n 1, 1) := by decide +kernel
theorem dX9_odds_1 : decode t_X9_odds.2.1 1 = .ok (.invokestatic 289, 3) := by decide +kernel
theorem iX9_odds_1 : wm_is t_X9_odds t_X9_isToldYear 1 := ⟨289, wd_930, dX9_odds_1⟩
theorem dX9_odds_4 : decode t_X9_odds.2.1 4 = .ok (.ifCond .eq 12, 3) := by decide +kernel
theorem dX9_odds_7 : decode t_X9_odds.2.1 7 = .ok (.iload_n 2, 1) := by decide +kernel
theorem dX9_odds_8 : decode t_X9_odds.2.1 8 = .ok (.ifCond .lt 8, 3) := by decide +kernel
theorem dX9_odds_11 : decode t_X9_odds.2.1 11 = .ok (.iload_n 2, 1) := by decide +kernel
theorem dX9_odds_12 : decode t_X9_odds.2.1 12 = .ok (.iload_n 1, 1) := by decide +kernel
theorem dX9_odds_13 : decode t_X9_odds.2.1 13 = .ok (.if_icmp .le 5, 3) := by decide +kernel
theorem dX9_odds_16 : decode t_X9_odds.2.1 16 = .ok (.iconst (-1), 1) := by decide +kernel
theorem dX9_odds_17 : decode t_X9_odds.2.1 17 = .ok (.ireturn, 1) := by decide +kernel
theorem dX9_odds_18 : decode t_X9_odds.2.1 18 = .ok (.aload_n 0, 1) := by decide +kernel
theorem dX9_odds_19 : decode t_X9_odds.2.1 19 = .ok (.aload_n 0, 1) := by decide +kernel
theorem dX9_odds_20 : decode t_X9_odds.2.1 20 = .ok (.getfield 45, 3) := by decide +kernel
theorem gX9_odds_20 : wm_gf t_X9_odds 20 9 5 := ⟨_, _, _, 45, rfl, by decide, wd_351, dX9_odds_20⟩
theorem dX9_odds_23 : decode t_X9_odds.2.1 23 = .ok (.getfield 186, 3) := by decide +kernel
theorem gX9_odds_23 : wm_gf t_X9_odds 23 0 0 := ⟨_, _, _, 186, rfl, by decide, wd_205, dX9_odds_23⟩
theorem dX9_odds_26 : decode t_X9_odds.2.1 26 = .ok (.iload_n 3, 1) := by decide +kernel
theorem dX9_odds_27 : decode t_X9_odds.2.1 27 = .ok (.invokevirtual 120, 3) := by decide +kernel
theorem iX9_odds_27 : wm_iv t_X9_odds t_X9_refusal 27 := ⟨120, wd_428, dX9_odds_27⟩
theorem dX9_odds_30 : decode t_X9_odds.2.1 30 = .ok (.istore 4, 2) := by decide +kernel
theorem dX9_odds_32 : decode t_X9_odds.2.1 32 = .ok (.iload 4, 2) := by decide +kernel
theorem dX9_odds_34 : decode t_X9_odds.2.1 34 = .ok (.ifCond .eq 6, 3) := by decide +kernel
theorem dX9_odds_37 : decode t_X9_odds.2.1 37 = .ok (.iload 4, 2) := by decide +kernel
theorem dX9_odds_39 : decode t_X9_odds.2.1 39 = .ok (.ireturn, 1) := by decide +kernel
theorem dX9_odds_40 : decode t_X9_odds.2.1 40 = .ok (.aload_n 0, 1) := by decide +kernel
theorem dX9_odds_41 : decode t_X9_odds.2.1 41 = .ok (.getfield 70, 3) := by decide +kernel
theorem gX9_odds_41 : wm_gf t_X9_odds 41 9 8 := ⟨_, _, _, 70, rfl, by decide, wd_354, dX9_odds_41⟩
theorem dX9_odds_44 : decode t_X9_odds.2.1 44 = .ok (.iload_n 1, 1) := by decide +kernel
theorem dX9_odds_45 : decode t_X9_odds.2.1 45 = .ok (.invokevirtual 298, 3) := by decide +kernel
theorem iX9_odds_45 : wm_iv t_X9_odds t_X1_isTold 45 := ⟨298, wd_946, dX9_odds_45⟩
theorem dX9_odds_48 : decode t_X9_odds.2.1 48 = .ok (.ifCond .ne 9, 3) := by decide +kernel
theorem dX9_odds_51 : decode t_X9_odds.2.1 51 = .ok (.aload_n 0, 1) := by decide +kernel
theorem dX9_odds_52 : decode t_X9_odds.2.1 52 = .ok (.iconst 4, 1) := by decide +kernel
theorem dX9_odds_53 : decode t_X9_odds.2.1 53 = .ok (.invokevirtual 132, 3) := by decide +kernel
theorem iX9_odds_53 : wm_iv t_X9_odds t_X9_find 53 := ⟨132, wd_401, dX9_odds_53⟩
theorem dX9_odds_56 : decode t_X9_odds.2.1 56 = .ok (.ireturn, 1) := by decide +kernel
theorem dX9_odds_57 : decode t_X9_odds.2.1 57 = .ok (.aload_n 0, 1) := by decide +kernel
theorem dX9_odds_58 : decode t_X9_odds.2.1 58 = .ok (.getfield 77, 3) := by decide +kernel
theorem gX9_odds_58 : wm_gf t_X9_odds 58 9 9 := ⟨_, _, _, 77, rfl, by decide, wd_355, dX9_odds_58⟩
theorem dX9_odds_61 : decode t_X9_odds.2.1 61 = .ok (.aload_n 0, 1) := by decide +kernel
theorem dX9_odds_62 : decode t_X9_odds.2.1 62 = .ok (.getfield 70, 3) := by decide +kernel
theorem gX9_odds_62 : wm_gf t_X9_odds 62 9 8 := ⟨_, _, _, 70, rfl, by decide, wd_354, dX9_odds_62⟩
theorem dX9_odds_65 : decode t_X9_odds.2.1 65 = .ok (.iload_n 1, 1) := by decide +kernel
theorem dX9_odds_66 : decode t_X9_odds.2.1 66 = .ok (.iload_n 2, 1) := by decide +kernel
theorem dX9_odds_67 : decode t_X9_odds.2.1 67 = .ok (.aload_n 0, 1) := by decide +kernel
theorem dX9_odds_68 : decode t_X9_odds.2.1 68 = .ok (.getfield 45, 3) := by decide +kernel
theorem gX9_odds_68 : wm_gf t_X9_odds 68 9 5 := ⟨_, _, _, 45, rfl, by decide, wd_351, dX9_odds_68⟩
theorem dX9_odds_71 : decode t_X9_odds.2.1 71 = .ok (.getfield 232, 3) := by decide +kernel
theorem gX9_odds_71 : wm_gf t_X9_odds 71 0 1 := ⟨_, _, _, 232, rfl, by decide, wd_208, dX9_odds_71⟩
theorem dX9_odds_74 : decode t_X9_odds.2.1 74 = .ok (.iload_n 3, 1) := by decide +kernel
theorem dX9_odds_75 : decode t_X9_odds.2.1 75 = .ok (.aaload, 1) := by decide +kernel
theorem dX9_odds_76 : decode t_X9_odds.2.1 76 = .ok (.invokevirtual 317, 3) := by decide +kernel
theorem wd_1043 : Cond.methodLink RX9 317 yX1_waysBy ∈ lw_gd := List.mem_filter.mpr ⟨List.mem_of_getElem? (i := 1043) (by decide +kernel), by decide +kernel⟩
theorem iX9_odds_76 : wm_iv t_X9_odds t_X1_waysBy 76 := ⟨317, wd_1043, dX9_odds_76⟩
theorem dX9_odds_79 : decode t_X9_odds.2.1 79 = .ok (.i2l, 1) := by decide +kernel
theorem dX9_odds_80 : decode t_X9_odds.2.1 80 = .ok (.aload_n 0, 1) := by decide +kernel
theorem dX9_odds_81 : decode t_X9_odds.2.1 81 = .ok (.getfield 70, 3) := by decide +kernel
theorem gX9_odds_81 : wm_gf t_X9_odds 81 9 8 := ⟨_, _, _, 70, rfl, by decide, wd_354, dX9_odds_81⟩
theorem dX9_odds_84 : decode t_X9_odds.2.1 84 = .ok (.iload_n 1, 1) := by decide +kernel
theorem dX9_odds_85 : decode t_X9_odds.2.1 85 = .ok (.invokevirtual 301, 3) := by decide +kernel
theorem iX9_odds_85 : wm_iv t_X9_odds t_X1_allWays 85 := ⟨301, wd_981, dX9_odds_85⟩
theorem dX9_odds_88 : decode t_X9_odds.2.1 88 = .ok (.i2l, 1) := by decide +kernel
theorem dX9_odds_89 : decode t_X9_odds.2.1 89 = .ok (.invokevirtual 260, 3) := by decide +kernel
theorem iX9_odds_89 : wm_iv t_X9_odds t_X6_fraction 89 := ⟨260, wd_866, dX9_odds_89⟩
theorem dX9_odds_92 : decode t_X9_odds.2.1 92 = .ok (.iconst 1, 1) := by decide +kernel
theorem dX9_odds_93 : decode t_X9_odds.2.1 93 = .ok (.ireturn, 1) := by decide +kernel
theorem wd_1051 : Cond.code yX9_lives cX9_lives 9 (some .int) ∈ lw_gd := List.mem_filter.mpr ⟨List.mem_of_getElem? (i := 1051) (by decide +kernel), by decide +kernel⟩
theorem wd_1049 : Cond.instanceMethod yX9_lives ∈ lw_gd := List.mem_filter.mpr ⟨List.mem_of_getElem? (i := 1049) (by decide +kernel), by decide +kernel⟩
theorem wd_1050 : Cond.selects RX9 yX9_lives yX9_lives ∈ lw_gd := List.mem_filter.mpr ⟨List.mem_of_getElem? (i := 1050) (by decide +kernel), by decide +kernel⟩
theorem vX9_lives : wm_calV t_X9_lives 2 := ⟨⟨wd_1051, wd_77, by decide +kernel, by decide +kernel, by decide +kernel⟩, wd_1049, wd_1050⟩
theorem dX9_lives_0 : decode t_X9_lives.2.1 0 = .ok (.iload_n 1, 1) := by decide +kernel
theorem dX9_lives_1 : decode t_X9_lives.2.1 1 = .ok (.invokestatic 239, 3) := by decide +kernel
theorem iX9_lives_1 : wm_is t_X9_lives t_X9_isLawSet 1 := ⟨239, wd_789, dX9_lives_1⟩
theorem dX9_lives_4 : decode t_X9_lives.2.1 4 = .ok (.ifCond .eq 14, 3) := by decide +kernel
theorem dX9_lives_7 : decode t_X9_lives.2.1 7 = .ok (.iload_n 2, 1) := by decide +kernel
theorem dX9_lives_8 : decode t_X9_lives.2.1 8 = .ok (.iconst 1, 1) := by decide +kernel
theorem dX9_lives_9 : decode t_X9_lives.2.1 9 = .ok (.if_icmp .lt 9, 3) := by decide +kernel
theorem dX9_lives_12 : decode t_X9_lives.2.1 12 = .ok (.iload_n 2, 1) := by decide +kernel
theorem dX9_lives_13 : decode t_X9_lives.2.1 13 = .ok (.bipush 12, 2) := by decide +kernel
theorem dX9_lives_15 : decode t_X9_lives.2.1 15 = .ok (.if_icmp .le 5, 3) := by decide +kernel
theorem dX9_lives_18 : decode t_X9_lives.2.1 18 = .ok (.iconst (-1), 1) := by decide +kernel
theorem dX9_lives_19 : decode t_X9_lives.2.1 19 = .ok (.ireturn, 1) := by decide +kernel
theorem dX9_lives_20 : decode t_X9_lives.2.1 20 = .ok (.aload_n 0, 1) := by decide +kernel
theorem dX9_lives_21 : decode t_X9_lives.2.1 21 = .ok (.getfield 54, 3) := by decide +kernel
theorem gX9_lives_21 : wm_gf t_X9_lives 21 9 6 := ⟨_, _, _, 54, rfl, by decide, wd_352, dX9_lives_21⟩
theorem dX9_lives_24 : decode t_X9_lives.2.1 24 = .ok (.aload_n 0, 1) := by decide +kernel
theorem dX9_lives_25 : decode t_X9_lives.2.1 25 = .ok (.getfield 88, 3) := by decide +kernel
theorem gX9_lives_25 : wm_gf t_X9_lives 25 9 12 := ⟨_, _, _, 88, rfl, by decide, wd_358, dX9_lives_25⟩
theorem dX9_lives_28 : decode t_X9_lives.2.1 28 = .ok (.iload_n 1, 1) := by decide +kernel
theorem dX9_lives_29 : decode t_X9_lives.2.1 29 = .ok (.invokevirtual 242, 3) := by decide +kernel
theorem iX9_lives_29 : wm_iv t_X9_lives t_X8_leastYears 29 := ⟨242, wd_792, dX9_lives_29⟩
theorem dX9_lives_32 : decode t_X9_lives.2.1 32 = .ok (.istore_n 3, 1) := by decide +kernel
theorem dX9_lives_33 : decode t_X9_lives.2.1 33 = .ok (.iload_n 3, 1) := by decide +kernel
theorem dX9_lives_34 : decode t_X9_lives.2.1 34 = .ok (.bipush (-9), 2) := by decide +kernel
theorem dX9_lives_36 : decode t_X9_lives.2.1 36 = .ok (.if_icmp .ne 6, 3) := by decide +kernel
theorem dX9_lives_39 : decode t_X9_lives.2.1 39 = .ok (.bipush (-9), 2) := by decide +kernel
theorem dX9_lives_41 : decode t_X9_lives.2.1 41 = .ok (.ireturn, 1) := by decide +kernel
theorem dX9_lives_42 : decode t_X9_lives.2.1 42 = .ok (.iload_n 3, 1) := by decide +kernel
theorem dX9_lives_43 : decode t_X9_lives.2.1 43 = .ok (.bipush 17, 2) := by decide +kernel
theorem dX9_lives_45 : decode t_X9_lives.2.1 45 = .ok (.if_icmp .le 6, 3) := by decide +kernel
theorem dX9_lives_48 : decode t_X9_lives.2.1 48 = .ok (.bipush (-6), 2) := by decide +kernel
theorem dX9_lives_50 : decode t_X9_lives.2.1 50 = .ok (.ireturn, 1) := by decide +kernel
theorem dX9_lives_51 : decode t_X9_lives.2.1 51 = .ok (.lconst 1, 1) := by decide +kernel
theorem dX9_lives_52 : decode t_X9_lives.2.1 52 = .ok (.lstore 4, 2) := by decide +kernel
theorem dX9_lives_54 : decode t_X9_lives.2.1 54 = .ok (.lconst 1, 1) := by decide +kernel
theorem dX9_lives_55 : decode t_X9_lives.2.1 55 = .ok (.lstore 6, 2) := by decide +kernel
theorem dX9_lives_57 : decode t_X9_lives.2.1 57 = .ok (.iconst 0, 1) := by decide +kernel
theorem dX9_lives_58 : decode t_X9_lives.2.1 58 = .ok (.istore 8, 2) := by decide +kernel
theorem dX9_lives_60 : decode t_X9_lives.2.1 60 = .ok (.iload 8, 2) := by decide +kernel
theorem dX9_lives_62 : decode t_X9_lives.2.1 62 = .ok (.iload_n 3, 1) := by decide +kernel
theorem dX9_lives_63 : decode t_X9_lives.2.1 63 = .ok (.if_icmp .ge 24, 3) := by decide +kernel
theorem dX9_lives_66 : decode t_X9_lives.2.1 66 = .ok (.lload 4, 2) := by decide +kernel
theorem dX9_lives_68 : decode t_X9_lives.2.1 68 = .ok (.iload_n 2, 1) := by decide +kernel
theorem dX9_lives_69 : decode t_X9_lives.2.1 69 = .ok (.i2l, 1) := by decide +kernel
theorem dX9_lives_70 : decode t_X9_lives.2.1 70 = .ok (.lmul, 1) := by decide +kernel
theorem dX9_lives_71 : decode t_X9_lives.2.1 71 = .ok (.lstore 4, 2) := by decide +kernel
theorem dX9_lives_73 : decode t_X9_lives.2.1 73 = .ok (.lload 6, 2) := by decide +kernel
theorem dX9_lives_75 : decode t_X9_lives.2.1 75 = .ok (.ldc2_w 321, 3) := by decide +kernel
theorem wd_1052 : Cond.constantLong RX9 321 (12) ∈ lw_gd := List.mem_filter.mpr ⟨List.mem_of_getElem? (i := 1052) (by decide +kernel), by decide +kernel⟩
theorem kX9_lives_75 : Cond.constantLong t_X9_lives.1.cls 321 (12) ∈ lw_gd := wd_1052
theorem dX9_lives_78 : decode t_X9_lives.2.1 78 = .ok (.lmul, 1) := by decide +kernel
theorem dX9_lives_79 : decode t_X9_lives.2.1 79 = .ok (.lstore 6, 2) := by decide +kernel
theorem dX9_lives_81 : decode t_X9_lives.2.1 81 = .ok (.iinc 8 1, 3) := by decide +kernel
theorem dX9_lives_84 : decode t_X9_lives.2.1 84 = .ok (.goto (-24), 3) := by decide +kernel
theorem dX9_lives_87 : decode t_X9_lives.2.1 87 = .ok (.aload_n 0, 1) := by decide +kernel
theorem dX9_lives_88 : decode t_X9_lives.2.1 88 = .ok (.getfield 77, 3) := by decide +kernel
theorem gX9_lives_88 : wm_gf t_X9_lives 88 9 9 := ⟨_, _, _, 77, rfl, by decide, wd_355, dX9_lives_88⟩
theorem dX9_lives_91 : decode t_X9_lives.2.1 91 = .ok (.lload 4, 2) := by decide +kernel
theorem dX9_lives_93 : decode t_X9_lives.2.1 93 = .ok (.lload 6, 2) := by decide +kernel
theorem dX9_lives_95 : decode t_X9_lives.2.1 95 = .ok (.invokevirtual 260, 3) := by decide +kernel
theorem iX9_lives_95 : wm_iv t_X9_lives t_X6_fraction 95 := ⟨260, wd_866, dX9_lives_95⟩
theorem dX9_lives_98 : decode t_X9_lives.2.1 98 = .ok (.iload_n 3, 1) := by decide +kernel
theorem dX9_lives_99 : decode t_X9_lives.2.1 99 = .ok (.ireturn, 1) := by decide +kernel
theorem wd_1056 : Cond.code yX9_asked cX9_asked 1 (some .int) ∈ lw_gd := List.mem_filter.mpr ⟨List.mem_of_getElem? (i := 1056) (by decide +kernel), by decide +kernel⟩
theorem wd_1054 : Cond.instanceMethod yX9_asked ∈ lw_gd := List.mem_filter.mpr ⟨List.mem_of_getElem? (i := 1054) (by decide +kernel), by decide +kernel⟩
theorem wd_1055 : Cond.selects RX9 yX9_asked yX9_asked ∈ lw_gd := List.mem_filter.mpr ⟨List.mem_of_getElem? (i := 1055) (by decide +kernel), by decide +kernel⟩
theorem vX9_asked : wm_calV t_X9_asked 0 := ⟨⟨wd_1056, wd_77, by decide +kernel, by decide +kernel, by decide +kernel⟩, wd_1054, wd_1055⟩
theorem dX9_asked_0 : decode t_X9_asked.2.1 0 = .ok (.aload_n 0, 1) := by decide +kernel
theorem dX9_asked_1 : decode t_X9_asked.2.1 1 = .ok (.getfield 77, 3) := by decide +kernel
theorem gX9_asked_1 : wm_gf t_X9_asked 1 9 9 := ⟨_, _, _, 77, rfl, by decide, wd_355, dX9_asked_1⟩
theorem dX9_asked_4 : decode t_X9_asked.2.1 4 = .ok (.getfield 113, 3) := by decide +kernel
theorem gX9_asked_4 : wm_gf t_X9_asked 4 6 0 := ⟨_, _, _, 113, rfl, by decide, wd_325, dX9_asked_4⟩
theorem dX9_asked_7 : decode t_X9_asked.2.1 7 = .ok (.ireturn, 1) := by decide +kernel
theorem wd_1060 : Cond.code yX9_upper cX9_upper 1 (some .long) ∈ lw_gd := List.mem_filter.mpr ⟨List.mem_of_getElem? (i := 1060) (by decide +kernel), by decide +kernel⟩
theorem wd_1058 : Cond.instanceMethod yX9_upper ∈ lw_gd := List.mem_filter.mpr ⟨List.mem_of_getElem? (i := 1058) (by decide +kernel), by decide +kernel⟩
theorem wd_1059 : Cond.selects RX9 yX9_upper yX9_upper ∈ lw_gd := List.mem_filter.mpr ⟨List.mem_of_getElem? (i := 1059) (by decide +kernel), by decide +kernel⟩
theorem vX9_upper : wm_calV t_X9_upper 0 := ⟨⟨wd_1060, wd_77, by decide +kernel, by decide +kernel, by decide +kernel⟩, wd_1058, wd_1059⟩
theorem dX9_upper_0 : decode t_X9_upper.2.1 0 = .ok (.aload_n 0, 1) := by decide +kernel
theorem dX9_upper_1 : decode t_X9_upper.2.1 1 = .ok (.getfield 77, 3) := by decide +kernel
theorem gX9_upper_1 : wm_gf t_X9_upper 1 9 9 := ⟨_, _, _, 77, rfl, by decide, wd_355, dX9_upper_1⟩
theorem dX9_upper_4 : decode t_X9_upper.2.1 4 = .ok (.getfield 323, 3) := by decide +kernel
theorem wd_327 : Cond.fieldLink RX9 323 "TurnedStones$Told" "top" "J" ∈ lw_gd := List.mem_filter.mpr ⟨List.mem_of_getElem? (i := 327) (by decide +kernel), by decide +kernel⟩
theorem gX9_upper_4 : wm_gf t_X9_upper 4 6 1 := ⟨_, _, _, 323, rfl, by decide, wd_327, dX9_upper_4⟩
theorem dX9_upper_7 : decode t_X9_upper.2.1 7 = .ok (.lreturn, 1) := by decide +kernel
theorem wd_1064 : Cond.code yX9_lower cX9_lower 1 (some .long) ∈ lw_gd := List.mem_filter.mpr ⟨List.mem_of_getElem? (i := 1064) (by decide +kernel), by decide +kernel⟩
theorem wd_1062 : Cond.instanceMethod yX9_lower ∈ lw_gd := List.mem_filter.mpr ⟨List.mem_of_getElem? (i := 1062) (by decide +kernel), by decide +kernel⟩
theorem wd_1063 : Cond.selects RX9 yX9_lower yX9_lower ∈ lw_gd := List.mem_filter.mpr ⟨List.mem_of_getElem? (i := 1063) (by decide +kernel), by decide +kernel⟩
theorem vX9_lower : wm_calV t_X9_lower 0 := ⟨⟨wd_1064, wd_77, by decide +kernel, by decide +kernel, by decide +kernel⟩, wd_1062, wd_1063⟩
theorem dX9_lower_0 : decode t_X9_lower.2.1 0 = .ok (.aload_n 0, 1) := by decide +kernel
theorem dX9_lower_1 : decode t_X9_lower.2.1 1 = .ok (.getfield 77, 3) := by decide +kernel
theorem gX9_lower_1 : wm_gf t_X9_lower 1 9 9 := ⟨_, _, _, 77, rfl, by decide, wd_355, dX9_lower_1⟩
theorem dX9_lower_4 : decode t_X9_lower.2.1 4 = .ok (.getfield 327, 3) := by decide +kernel
theorem wd_329 : Cond.fieldLink RX9 327 "TurnedStones$Told" "bottom" "J" ∈ lw_gd := List.mem_filter.mpr ⟨List.mem_of_getElem? (i := 329) (by decide +kernel), by decide +kernel⟩
theorem gX9_lower_4 : wm_gf t_X9_lower 4 6 2 := ⟨_, _, _, 327, rfl, by decide, wd_329, dX9_lower_4⟩
theorem dX9_lower_7 : decode t_X9_lower.2.1 7 = .ok (.lreturn, 1) := by decide +kernel
theorem wd_1068 : Cond.code yX9_count cX9_count 2 (some .int) ∈ lw_gd := List.mem_filter.mpr ⟨List.mem_of_getElem? (i := 1068) (by decide +kernel), by decide +kernel⟩
theorem wd_1066 : Cond.instanceMethod yX9_count ∈ lw_gd := List.mem_filter.mpr ⟨List.mem_of_getElem? (i := 1066) (by decide +kernel), by decide +kernel⟩
theorem wd_1067 : Cond.selects RX9 yX9_count yX9_count ∈ lw_gd := List.mem_filter.mpr ⟨List.mem_of_getElem? (i := 1067) (by decide +kernel), by decide +kernel⟩
theorem vX9_count : wm_calV t_X9_count 1 := ⟨⟨wd_1068, wd_77, by decide +kernel, by decide +kernel, by decide +kernel⟩, wd_1066, wd_1067⟩
theorem dX9_count_0 : decode t_X9_count.2.1 0 = .ok (.iload_n 1, 1) := by decide +kernel
theorem dX9_count_1 : decode t_X9_count.2.1 1 = .ok (.ifCond .lt 9, 3) := by decide +kernel
theorem dX9_count_4 : decode t_X9_count.2.1 4 = .ok (.iload_n 1, 1) := by decide +kernel
theorem dX9_count_5 : decode t_X9_count.2.1 5 = .ok (.bipush 7, 2) := by decide +kernel
theorem dX9_count_7 : decode t_X9_count.2.1 7 = .ok (.if_icmp .le 7, 3) := by decide +kernel
theorem dX9_count_10 : decode t_X9_count.2.1 10 = .ok (.iconst (-1), 1) := by decide +kernel
theorem dX9_count_11 : decode t_X9_count.2.1 11 = .ok (.goto 8, 3) := by decide +kernel
theorem dX9_count_14 : decode t_X9_count.2.1 14 = .ok (.aload_n 0, 1) := by decide +kernel
theorem dX9_count_15 : decode t_X9_count.2.1 15 = .ok (.iload_n 1, 1) := by decide +kernel
theorem dX9_count_16 : decode t_X9_count.2.1 16 = .ok (.invokevirtual 330, 3) := by decide +kernel
theorem wd_1069 : Cond.methodLink RX9 330 yX9_tally ∈ lw_gd := List.mem_filter.mpr ⟨List.mem_of_getElem? (i := 1069) (by decide +kernel), by decide +kernel⟩
theorem iX9_count_16 : wm_iv t_X9_count t_X9_tally 16 := ⟨330, wd_1069, dX9_count_16⟩
theorem dX9_count_19 : decode t_X9_count.2.1 19 = .ok (.ireturn, 1) := by decide +kernel
theorem wd_1081 : Cond.code yX9_finding cX9_finding 1 (some .int) ∈ lw_gd := List.mem_filter.mpr ⟨List.mem_of_getElem? (i := 1081) (by decide +kernel), by decide +kernel⟩
theorem wd_1079 : Cond.instanceMethod yX9_finding ∈ lw_gd := List.mem_filter.mpr ⟨List.mem_of_getElem? (i := 1079) (by decide +kernel), by decide +kernel⟩
theorem wd_1080 : Cond.selects RX9 yX9_finding yX9_finding ∈ lw_gd := List.mem_filter.mpr ⟨List.mem_of_getElem? (i := 1080) (by decide +kernel), by decide +kernel⟩
theorem vX9_finding : wm_calV t_X9_finding 0 := ⟨⟨wd_1081, wd_77, by decide +kernel, by decide +kernel, by decide +kernel⟩, wd_1079, wd_1080⟩
theorem dX9_finding_0 : decode t_X9_finding.2.1 0 = .ok (.aload_n 0, 1) := by decide +kernel
theorem dX9_finding_1 : decode t_X9_finding.2.1 1 = .ok (.getfield 77, 3) := by decide +kernel
theorem gX9_finding_1 : wm_gf t_X9_finding 1 9 9 := ⟨_, _, _, 77, rfl, by decide, wd_355, dX9_finding_1⟩
theorem dX9_finding_4 : decode t_X9_finding.2.1 4 = .ok (.getfield 333, 3) := by decide +kernel
theorem wd_331 : Cond.fieldLink RX9 333 "TurnedStones$Told" "latest" "I" ∈ lw_gd := List.mem_filter.mpr ⟨List.mem_of_getElem? (i := 331) (by decide +kernel), by decide +kernel⟩
theorem gX9_finding_4 : wm_gf t_X9_finding 4 6 3 := ⟨_, _, _, 333, rfl, by decide, wd_331, dX9_finding_4⟩
theorem dX9_finding_7 : decode t_X9_finding.2.1 7 = .ok (.ireturn, 1) := by decide +kernel
theorem wd_1085 : Cond.code yX9_findings cX9_findings 2 (some .int) ∈ lw_gd := List.mem_filter.mpr ⟨List.mem_of_getElem? (i := 1085) (by decide +kernel), by decide +kernel⟩
theorem wd_1083 : Cond.instanceMethod yX9_findings ∈ lw_gd := List.mem_filter.mpr ⟨List.mem_of_getElem? (i := 1083) (by decide +kernel), by decide +kernel⟩
theorem wd_1084 : Cond.selects RX9 yX9_findings yX9_findings ∈ lw_gd := List.mem_filter.mpr ⟨List.mem_of_getElem? (i := 1084) (by decide +kernel), by decide +kernel⟩
theorem vX9_findings : wm_calV t_X9_findings 1 := ⟨⟨wd_1085, wd_77, by decide +kernel, by decide +kernel, by decide +kernel⟩, wd_1083, wd_1084⟩
theorem dX9_findings_0 : decode t_X9_findings.2.1 0 = .ok (.iload_n 1, 1) := by decide +kernel
theorem dX9_findings_1 : decode t_X9_findings.2.1 1 = .ok (.iconst 1, 1) := by decide +kernel
theorem dX9_findings_2 : decode t_X9_findings.2.1 2 = .ok (.if_icmp .lt 8, 3) := by decide +kernel
theorem dX9_findings_5 : decode t_X9_findings.2.1 5 = .ok (.iload_n 1, 1) := by decide +kernel
theorem dX9_findings_6 : decode t_X9_findings.2.1 6 = .ok (.iconst 5, 1) := by decide +kernel
theorem dX9_findings_7 : decode t_X9_findings.2.1 7 = .ok (.if_icmp .le 7, 3) := by decide +kernel
theorem dX9_findings_10 : decode t_X9_findings.2.1 10 = .ok (.iconst (-1), 1) := by decide +kernel
theorem dX9_findings_11 : decode t_X9_findings.2.1 11 = .ok (.goto 12, 3) := by decide +kernel
theorem dX9_findings_14 : decode t_X9_findings.2.1 14 = .ok (.aload_n 0, 1) := by decide +kernel
theorem dX9_findings_15 : decode t_X9_findings.2.1 15 = .ok (.getfield 77, 3) := by decide +kernel
theorem gX9_findings_15 : wm_gf t_X9_findings 15 9 9 := ⟨_, _, _, 77, rfl, by decide, wd_355, dX9_findings_15⟩
theorem dX9_findings_18 : decode t_X9_findings.2.1 18 = .ok (.getfield 336, 3) := by decide +kernel
theorem wd_333 : Cond.fieldLink RX9 336 "TurnedStones$Told" "found" "[I" ∈ lw_gd := List.mem_filter.mpr ⟨List.mem_of_getElem? (i := 333) (by decide +kernel), by decide +kernel⟩
theorem gX9_findings_18 : wm_gf t_X9_findings 18 6 4 := ⟨_, _, _, 336, rfl, by decide, wd_333, dX9_findings_18⟩
theorem dX9_findings_21 : decode t_X9_findings.2.1 21 = .ok (.iload_n 1, 1) := by decide +kernel
theorem dX9_findings_22 : decode t_X9_findings.2.1 22 = .ok (.iaload, 1) := by decide +kernel
theorem dX9_findings_23 : decode t_X9_findings.2.1 23 = .ok (.ireturn, 1) := by decide +kernel
theorem wd_1089 : Cond.code yX9_digest cX9_digest 5 (some .long) ∈ lw_gd := List.mem_filter.mpr ⟨List.mem_of_getElem? (i := 1089) (by decide +kernel), by decide +kernel⟩
theorem wd_1087 : Cond.instanceMethod yX9_digest ∈ lw_gd := List.mem_filter.mpr ⟨List.mem_of_getElem? (i := 1087) (by decide +kernel), by decide +kernel⟩
theorem wd_1088 : Cond.selects RX9 yX9_digest yX9_digest ∈ lw_gd := List.mem_filter.mpr ⟨List.mem_of_getElem? (i := 1088) (by decide +kernel), by decide +kernel⟩
theorem vX9_digest : wm_calV t_X9_digest 0 := ⟨⟨wd_1089, wd_77, by decide +kernel, by decide +kernel, by decide +kernel⟩, wd_1087, wd_1088⟩
theorem dX9_digest_0 : decode t_X9_digest.2.1 0 = .ok (.ldc2_w 339, 3) := by decide +kernel
theorem wd_1090 : Cond.constantLong RX9 339 (17) ∈ lw_gd := List.mem_filter.mpr ⟨List.mem_of_getElem? (i := 1090) (by decide +kernel), by decide +kernel⟩
theorem kX9_digest_0 : Cond.constantLong t_X9_digest.1.cls 339 (17) ∈ lw_gd := wd_1090
theorem dX9_digest_3 : decode t_X9_digest.2.1 3 = .ok (.lstore_n 1, 1) := by decide +kernel
theorem dX9_digest_4 : decode t_X9_digest.2.1 4 = .ok (.iconst 0, 1) := by decide +kernel
theorem dX9_digest_5 : decode t_X9_digest.2.1 5 = .ok (.istore_n 3, 1) := by decide +kernel
theorem dX9_digest_6 : decode t_X9_digest.2.1 6 = .ok (.iload_n 3, 1) := by decide +kernel
theorem dX9_digest_7 : decode t_X9_digest.2.1 7 = .ok (.bipush 7, 2) := by decide +kernel
theorem dX9_digest_9 : decode t_X9_digest.2.1 9 = .ok (.if_icmp .gt 22, 3) := by decide +kernel
theorem dX9_digest_12 : decode t_X9_digest.2.1 12 = .ok (.ldc2_w 341, 3) := by decide +kernel
theorem wd_1091 : Cond.constantLong RX9 341 (31) ∈ lw_gd := List.mem_filter.mpr ⟨List.mem_of_getElem? (i := 1091) (by decide +kernel), by decide +kernel⟩
theorem kX9_digest_12 : Cond.constantLong t_X9_digest.1.cls 341 (31) ∈ lw_gd := wd_1091
theorem dX9_digest_15 : decode t_X9_digest.2.1 15 = .ok (.lload_n 1, 1) := by decide +kernel
theorem dX9_digest_16 : decode t_X9_digest.2.1 16 = .ok (.lmul, 1) := by decide +kernel
theorem dX9_digest_17 : decode t_X9_digest.2.1 17 = .ok (.aload_n 0, 1) := by decide +kernel
theorem dX9_digest_18 : decode t_X9_digest.2.1 18 = .ok (.iload_n 3, 1) := by decide +kernel
theorem dX9_digest_19 : decode t_X9_digest.2.1 19 = .ok (.invokevirtual 330, 3) := by decide +kernel
theorem iX9_digest_19 : wm_iv t_X9_digest t_X9_tally 19 := ⟨330, wd_1069, dX9_digest_19⟩
theorem dX9_digest_22 : decode t_X9_digest.2.1 22 = .ok (.i2l, 1) := by decide +kernel
theorem dX9_digest_23 : decode t_X9_digest.2.1 23 = .ok (.ladd, 1) := by decide +kernel
theorem dX9_digest_24 : decode t_X9_digest.2.1 24 = .ok (.lstore_n 1, 1) := by decide +kernel
theorem dX9_digest_25 : decode t_X9_digest.2.1 25 = .ok (.iinc 3 1, 3) := by decide +kernel
theorem dX9_digest_28 : decode t_X9_digest.2.1 28 = .ok (.goto (-22), 3) := by decide +kernel
theorem dX9_digest_31 : decode t_X9_digest.2.1 31 = .ok (.ldc2_w 341, 3) := by decide +kernel
theorem kX9_digest_31 : Cond.constantLong t_X9_digest.1.cls 341 (31) ∈ lw_gd := wd_1091
theorem dX9_digest_34 : decode t_X9_digest.2.1 34 = .ok (.lload_n 1, 1) := by decide +kernel
theorem dX9_digest_35 : decode t_X9_digest.2.1 35 = .ok (.lmul, 1) := by decide +kernel
theorem dX9_digest_36 : decode t_X9_digest.2.1 36 = .ok (.aload_n 0, 1) := by decide +kernel
theorem dX9_digest_37 : decode t_X9_digest.2.1 37 = .ok (.getfield 92, 3) := by decide +kernel
theorem gX9_digest_37 : wm_gf t_X9_digest 37 9 13 := ⟨_, _, _, 92, rfl, by decide, wd_359, dX9_digest_37⟩
theorem dX9_digest_40 : decode t_X9_digest.2.1 40 = .ok (.i2l, 1) := by decide +kernel
theorem dX9_digest_41 : decode t_X9_digest.2.1 41 = .ok (.ladd, 1) := by decide +kernel
theorem dX9_digest_42 : decode t_X9_digest.2.1 42 = .ok (.lstore_n 1, 1) := by decide +kernel
theorem dX9_digest_43 : decode t_X9_digest.2.1 43 = .ok (.iconst 0, 1) := by decide +kernel
theorem dX9_digest_44 : decode t_X9_digest.2.1 44 = .ok (.istore_n 3, 1) := by decide +kernel
theorem dX9_digest_45 : decode t_X9_digest.2.1 45 = .ok (.iload_n 3, 1) := by decide +kernel
theorem dX9_digest_46 : decode t_X9_digest.2.1 46 = .ok (.aload_n 0, 1) := by decide +kernel
theorem dX9_digest_47 : decode t_X9_digest.2.1 47 = .ok (.getfield 24, 3) := by decide +kernel
theorem gX9_digest_47 : wm_gf t_X9_digest 47 9 2 := ⟨_, _, _, 24, rfl, by decide, wd_348, dX9_digest_47⟩
theorem dX9_digest_50 : decode t_X9_digest.2.1 50 = .ok (.invokevirtual 162, 3) := by decide +kernel
theorem iX9_digest_50 : wm_iv t_X9_digest t_X4_number 50 := ⟨162, wd_632, dX9_digest_50⟩
theorem dX9_digest_53 : decode t_X9_digest.2.1 53 = .ok (.if_icmp .ge 39, 3) := by decide +kernel
theorem dX9_digest_56 : decode t_X9_digest.2.1 56 = .ok (.iconst 0, 1) := by decide +kernel
theorem dX9_digest_57 : decode t_X9_digest.2.1 57 = .ok (.istore 4, 2) := by decide +kernel
theorem dX9_digest_59 : decode t_X9_digest.2.1 59 = .ok (.iload 4, 2) := by decide +kernel
theorem dX9_digest_61 : decode t_X9_digest.2.1 61 = .ok (.iconst 5, 1) := by decide +kernel
theorem dX9_digest_62 : decode t_X9_digest.2.1 62 = .ok (.if_icmp .gt 24, 3) := by decide +kernel
theorem dX9_digest_65 : decode t_X9_digest.2.1 65 = .ok (.ldc2_w 341, 3) := by decide +kernel
theorem kX9_digest_65 : Cond.constantLong t_X9_digest.1.cls 341 (31) ∈ lw_gd := wd_1091
theorem dX9_digest_68 : decode t_X9_digest.2.1 68 = .ok (.lload_n 1, 1) := by decide +kernel
theorem dX9_digest_69 : decode t_X9_digest.2.1 69 = .ok (.lmul, 1) := by decide +kernel
theorem dX9_digest_70 : decode t_X9_digest.2.1 70 = .ok (.aload_n 0, 1) := by decide +kernel
theorem dX9_digest_71 : decode t_X9_digest.2.1 71 = .ok (.iload_n 3, 1) := by decide +kernel
theorem dX9_digest_72 : decode t_X9_digest.2.1 72 = .ok (.iload 4, 2) := by decide +kernel
theorem dX9_digest_74 : decode t_X9_digest.2.1 74 = .ok (.invokevirtual 167, 3) := by decide +kernel
theorem iX9_digest_74 : wm_iv t_X9_digest t_X9_stoneTells 74 := ⟨167, wd_638, dX9_digest_74⟩
theorem dX9_digest_77 : decode t_X9_digest.2.1 77 = .ok (.i2l, 1) := by decide +kernel
theorem dX9_digest_78 : decode t_X9_digest.2.1 78 = .ok (.ladd, 1) := by decide +kernel
theorem dX9_digest_79 : decode t_X9_digest.2.1 79 = .ok (.lstore_n 1, 1) := by decide +kernel
theorem dX9_digest_80 : decode t_X9_digest.2.1 80 = .ok (.iinc 4 1, 3) := by decide +kernel
theorem dX9_digest_83 : decode t_X9_digest.2.1 83 = .ok (.goto (-24), 3) := by decide +kernel
theorem dX9_digest_86 : decode t_X9_digest.2.1 86 = .ok (.iinc 3 1, 3) := by decide +kernel
theorem dX9_digest_89 : decode t_X9_digest.2.1 89 = .ok (.goto (-44), 3) := by decide +kernel
theorem dX9_digest_92 : decode t_X9_digest.2.1 92 = .ok (.aload_n 0, 1) := by decide +kernel
theorem dX9_digest_93 : decode t_X9_digest.2.1 93 = .ok (.getfield 45, 3) := by decide +kernel
theorem gX9_digest_93 : wm_gf t_X9_digest 93 9 5 := ⟨_, _, _, 45, rfl, by decide, wd_351, dX9_digest_93⟩
theorem dX9_digest_96 : decode t_X9_digest.2.1 96 = .ok (.getfield 186, 3) := by decide +kernel
theorem gX9_digest_96 : wm_gf t_X9_digest 96 0 0 := ⟨_, _, _, 186, rfl, by decide, wd_205, dX9_digest_96⟩
theorem dX9_digest_99 : decode t_X9_digest.2.1 99 = .ok (.lload_n 1, 1) := by decide +kernel
theorem dX9_digest_100 : decode t_X9_digest.2.1 100 = .ok (.invokevirtual 343, 3) := by decide +kernel
theorem wd_1092 : Cond.methodLink RX9 343 yX5_fold ∈ lw_gd := List.mem_filter.mpr ⟨List.mem_of_getElem? (i := 1092) (by decide +kernel), by decide +kernel⟩
theorem iX9_digest_100 : wm_iv t_X9_digest t_X5_fold 100 := ⟨343, wd_1092, dX9_digest_100⟩
theorem dX9_digest_103 : decode t_X9_digest.2.1 103 = .ok (.lstore_n 1, 1) := by decide +kernel
theorem dX9_digest_104 : decode t_X9_digest.2.1 104 = .ok (.aload_n 0, 1) := by decide +kernel
theorem dX9_digest_105 : decode t_X9_digest.2.1 105 = .ok (.getfield 61, 3) := by decide +kernel
theorem gX9_digest_105 : wm_gf t_X9_digest 105 9 7 := ⟨_, _, _, 61, rfl, by decide, wd_353, dX9_digest_105⟩
theorem dX9_digest_108 : decode t_X9_digest.2.1 108 = .ok (.lload_n 1, 1) := by decide +kernel
theorem dX9_digest_109 : decode t_X9_digest.2.1 109 = .ok (.invokevirtual 347, 3) := by decide +kernel
theorem wd_1101 : Cond.methodLink RX9 347 yX2_fold ∈ lw_gd := List.mem_filter.mpr ⟨List.mem_of_getElem? (i := 1101) (by decide +kernel), by decide +kernel⟩
theorem iX9_digest_109 : wm_iv t_X9_digest t_X2_fold 109 := ⟨347, wd_1101, dX9_digest_109⟩
theorem dX9_digest_112 : decode t_X9_digest.2.1 112 = .ok (.lstore_n 1, 1) := by decide +kernel
theorem dX9_digest_113 : decode t_X9_digest.2.1 113 = .ok (.iconst 0, 1) := by decide +kernel
theorem dX9_digest_114 : decode t_X9_digest.2.1 114 = .ok (.istore_n 3, 1) := by decide +kernel
theorem dX9_digest_115 : decode t_X9_digest.2.1 115 = .ok (.iload_n 3, 1) := by decide +kernel
theorem dX9_digest_116 : decode t_X9_digest.2.1 116 = .ok (.iconst 3, 1) := by decide +kernel
theorem dX9_digest_117 : decode t_X9_digest.2.1 117 = .ok (.if_icmp .ge 47, 3) := by decide +kernel
theorem dX9_digest_120 : decode t_X9_digest.2.1 120 = .ok (.aload_n 0, 1) := by decide +kernel
theorem dX9_digest_121 : decode t_X9_digest.2.1 121 = .ok (.getfield 85, 3) := by decide +kernel
theorem gX9_digest_121 : wm_gf t_X9_digest 121 9 11 := ⟨_, _, _, 85, rfl, by decide, wd_357, dX9_digest_121⟩
theorem dX9_digest_124 : decode t_X9_digest.2.1 124 = .ok (.iload_n 3, 1) := by decide +kernel
theorem dX9_digest_125 : decode t_X9_digest.2.1 125 = .ok (.iaload, 1) := by decide +kernel
theorem dX9_digest_126 : decode t_X9_digest.2.1 126 = .ok (.iconst (-1), 1) := by decide +kernel
theorem dX9_digest_127 : decode t_X9_digest.2.1 127 = .ok (.if_icmp .eq 17, 3) := by decide +kernel
theorem dX9_digest_130 : decode t_X9_digest.2.1 130 = .ok (.ldc2_w 341, 3) := by decide +kernel
theorem kX9_digest_130 : Cond.constantLong t_X9_digest.1.cls 341 (31) ∈ lw_gd := wd_1091
theorem dX9_digest_133 : decode t_X9_digest.2.1 133 = .ok (.lload_n 1, 1) := by decide +kernel
theorem dX9_digest_134 : decode t_X9_digest.2.1 134 = .ok (.lmul, 1) := by decide +kernel
theorem dX9_digest_135 : decode t_X9_digest.2.1 135 = .ok (.aload_n 0, 1) := by decide +kernel
theorem dX9_digest_136 : decode t_X9_digest.2.1 136 = .ok (.getfield 81, 3) := by decide +kernel
theorem gX9_digest_136 : wm_gf t_X9_digest 136 9 10 := ⟨_, _, _, 81, rfl, by decide, wd_356, dX9_digest_136⟩
theorem dX9_digest_139 : decode t_X9_digest.2.1 139 = .ok (.iload_n 3, 1) := by decide +kernel
theorem dX9_digest_140 : decode t_X9_digest.2.1 140 = .ok (.iaload, 1) := by decide +kernel
theorem dX9_digest_141 : decode t_X9_digest.2.1 141 = .ok (.i2l, 1) := by decide +kernel
theorem dX9_digest_142 : decode t_X9_digest.2.1 142 = .ok (.ladd, 1) := by decide +kernel
theorem dX9_digest_143 : decode t_X9_digest.2.1 143 = .ok (.lstore_n 1, 1) := by decide +kernel
theorem dX9_digest_144 : decode t_X9_digest.2.1 144 = .ok (.ldc2_w 341, 3) := by decide +kernel
theorem kX9_digest_144 : Cond.constantLong t_X9_digest.1.cls 341 (31) ∈ lw_gd := wd_1091
theorem dX9_digest_147 : decode t_X9_digest.2.1 147 = .ok (.lload_n 1, 1) := by decide +kernel
theorem dX9_digest_148 : decode t_X9_digest.2.1 148 = .ok (.lmul, 1) := by decide +kernel
theorem dX9_digest_149 : decode t_X9_digest.2.1 149 = .ok (.aload_n 0, 1) := by decide +kernel
theorem dX9_digest_150 : decode t_X9_digest.2.1 150 = .ok (.getfield 85, 3) := by decide +kernel
theorem gX9_digest_150 : wm_gf t_X9_digest 150 9 11 := ⟨_, _, _, 85, rfl, by decide, wd_357, dX9_digest_150⟩
theorem dX9_digest_153 : decode t_X9_digest.2.1 153 = .ok (.iload_n 3, 1) := by decide +kernel
theorem dX9_digest_154 : decode t_X9_digest.2.1 154 = .ok (.iaload, 1) := by decide +kernel
theorem dX9_digest_155 : decode t_X9_digest.2.1 155 = .ok (.i2l, 1) := by decide +kernel
theorem dX9_digest_156 : decode t_X9_digest.2.1 156 = .ok (.ladd, 1) := by decide +kernel
theorem dX9_digest_157 : decode t_X9_digest.2.1 157 = .ok (.lstore_n 1, 1) := by decide +kernel
theorem dX9_digest_158 : decode t_X9_digest.2.1 158 = .ok (.iinc 3 1, 3) := by decide +kernel
theorem dX9_digest_161 : decode t_X9_digest.2.1 161 = .ok (.goto (-46), 3) := by decide +kernel
theorem dX9_digest_164 : decode t_X9_digest.2.1 164 = .ok (.aload_n 0, 1) := by decide +kernel
theorem dX9_digest_165 : decode t_X9_digest.2.1 165 = .ok (.getfield 14, 3) := by decide +kernel
theorem gX9_digest_165 : wm_gf t_X9_digest 165 9 0 := ⟨_, _, _, 14, rfl, by decide, wd_346, dX9_digest_165⟩
theorem dX9_digest_168 : decode t_X9_digest.2.1 168 = .ok (.lload_n 1, 1) := by decide +kernel
theorem dX9_digest_169 : decode t_X9_digest.2.1 169 = .ok (.invokevirtual 343, 3) := by decide +kernel
theorem iX9_digest_169 : wm_iv t_X9_digest t_X5_fold 169 := ⟨343, wd_1092, dX9_digest_169⟩
theorem dX9_digest_172 : decode t_X9_digest.2.1 172 = .ok (.lstore_n 1, 1) := by decide +kernel
theorem dX9_digest_173 : decode t_X9_digest.2.1 173 = .ok (.aload_n 0, 1) := by decide +kernel
theorem dX9_digest_174 : decode t_X9_digest.2.1 174 = .ok (.getfield 18, 3) := by decide +kernel
theorem gX9_digest_174 : wm_gf t_X9_digest 174 9 1 := ⟨_, _, _, 18, rfl, by decide, wd_347, dX9_digest_174⟩
theorem dX9_digest_177 : decode t_X9_digest.2.1 177 = .ok (.lload_n 1, 1) := by decide +kernel
theorem dX9_digest_178 : decode t_X9_digest.2.1 178 = .ok (.invokevirtual 343, 3) := by decide +kernel
theorem iX9_digest_178 : wm_iv t_X9_digest t_X5_fold 178 := ⟨343, wd_1092, dX9_digest_178⟩
theorem dX9_digest_181 : decode t_X9_digest.2.1 181 = .ok (.lreturn, 1) := by decide +kernel
theorem wd_404 : Cond.code yX9_find cX9_find 2 (some .int) ∈ lw_gd := List.mem_filter.mpr ⟨List.mem_of_getElem? (i := 404) (by decide +kernel), by decide +kernel⟩
theorem wd_403 : Cond.instanceMethod yX9_find ∈ lw_gd := List.mem_filter.mpr ⟨List.mem_of_getElem? (i := 403) (by decide +kernel), by decide +kernel⟩
theorem wd_1 : Cond.selects RX9 yX9_find yX9_find ∈ lw_gd := List.mem_filter.mpr ⟨List.mem_of_getElem? (i := 1) (by decide +kernel), by decide +kernel⟩
theorem vX9_find : wm_calV t_X9_find 1 := ⟨⟨wd_404, wd_77, by decide +kernel, by decide +kernel, by decide +kernel⟩, wd_403, wd_1⟩
theorem dX9_find_0 : decode t_X9_find.2.1 0 = .ok (.aload_n 0, 1) := by decide +kernel
theorem dX9_find_1 : decode t_X9_find.2.1 1 = .ok (.getfield 77, 3) := by decide +kernel
theorem gX9_find_1 : wm_gf t_X9_find 1 9 9 := ⟨_, _, _, 77, rfl, by decide, wd_355, dX9_find_1⟩
theorem dX9_find_4 : decode t_X9_find.2.1 4 = .ok (.iload_n 1, 1) := by decide +kernel
theorem dX9_find_5 : decode t_X9_find.2.1 5 = .ok (.invokevirtual 348, 3) := by decide +kernel
theorem wd_405 : Cond.methodLink RX9 348 yX6_note ∈ lw_gd := List.mem_filter.mpr ⟨List.mem_of_getElem? (i := 405) (by decide +kernel), by decide +kernel⟩
theorem iX9_find_5 : wm_iv t_X9_find t_X6_note 5 := ⟨348, wd_405, dX9_find_5⟩
theorem dX9_find_8 : decode t_X9_find.2.1 8 = .ok (.bipush (-3), 2) := by decide +kernel
theorem dX9_find_10 : decode t_X9_find.2.1 10 = .ok (.ireturn, 1) := by decide +kernel
theorem wd_431 : Cond.code yX9_refusal cX9_refusal 3 (some .int) ∈ lw_gd := List.mem_filter.mpr ⟨List.mem_of_getElem? (i := 431) (by decide +kernel), by decide +kernel⟩
theorem wd_430 : Cond.instanceMethod yX9_refusal ∈ lw_gd := List.mem_filter.mpr ⟨List.mem_of_getElem? (i := 430) (by decide +kernel), by decide +kernel⟩
theorem wd_3 : Cond.selects RX9 yX9_refusal yX9_refusal ∈ lw_gd := List.mem_filter.mpr ⟨List.mem_of_getElem? (i := 3) (by decide +kernel), by decide +kernel⟩
theorem vX9_refusal : wm_calV t_X9_refusal 2 := ⟨⟨wd_431, wd_77, by decide +kernel, by decide +kernel, by decide +kernel⟩, wd_430, wd_3⟩
theorem dX9_refusal_0 : decode t_X9_refusal.2.1 0 = .ok (.aload_n 1, 1) := by decide +kernel
theorem dX9_refusal_1 : decode t_X9_refusal.2.1 1 = .ok (.iload_n 2, 1) := by decide +kernel
theorem dX9_refusal_2 : decode t_X9_refusal.2.1 2 = .ok (.invokevirtual 128, 3) := by decide +kernel
theorem iX9_refusal_2 : wm_iv t_X9_refusal t_X5_knows 2 := ⟨128, wd_397, dX9_refusal_2⟩
theorem dX9_refusal_5 : decode t_X9_refusal.2.1 5 = .ok (.ifCond .ne 5, 3) := by decide +kernel
theorem dX9_refusal_8 : decode t_X9_refusal.2.1 8 = .ok (.iconst (-1), 1) := by decide +kernel
theorem dX9_refusal_9 : decode t_X9_refusal.2.1 9 = .ok (.ireturn, 1) := by decide +kernel
theorem dX9_refusal_10 : decode t_X9_refusal.2.1 10 = .ok (.aload_n 1, 1) := by decide +kernel
theorem dX9_refusal_11 : decode t_X9_refusal.2.1 11 = .ok (.iload_n 2, 1) := by decide +kernel
theorem dX9_refusal_12 : decode t_X9_refusal.2.1 12 = .ok (.invokevirtual 136, 3) := by decide +kernel
theorem iX9_refusal_12 : wm_iv t_X9_refusal t_X5_has 12 := ⟨136, wd_432, dX9_refusal_12⟩
theorem dX9_refusal_15 : decode t_X9_refusal.2.1 15 = .ok (.ifCond .eq 7, 3) := by decide +kernel
theorem dX9_refusal_18 : decode t_X9_refusal.2.1 18 = .ok (.iconst 0, 1) := by decide +kernel
theorem dX9_refusal_19 : decode t_X9_refusal.2.1 19 = .ok (.goto 8, 3) := by decide +kernel
theorem dX9_refusal_22 : decode t_X9_refusal.2.1 22 = .ok (.aload_n 0, 1) := by decide +kernel
theorem dX9_refusal_23 : decode t_X9_refusal.2.1 23 = .ok (.iconst 1, 1) := by decide +kernel
theorem dX9_refusal_24 : decode t_X9_refusal.2.1 24 = .ok (.invokevirtual 132, 3) := by decide +kernel
theorem iX9_refusal_24 : wm_iv t_X9_refusal t_X9_find 24 := ⟨132, wd_401, dX9_refusal_24⟩
theorem dX9_refusal_27 : decode t_X9_refusal.2.1 27 = .ok (.ireturn, 1) := by decide +kernel
theorem wd_427 : Cond.code yX9_placeRefusal cX9_placeRefusal 5 (some .int) ∈ lw_gd := List.mem_filter.mpr ⟨List.mem_of_getElem? (i := 427) (by decide +kernel), by decide +kernel⟩
theorem wd_426 : Cond.instanceMethod yX9_placeRefusal ∈ lw_gd := List.mem_filter.mpr ⟨List.mem_of_getElem? (i := 426) (by decide +kernel), by decide +kernel⟩
theorem wd_2 : Cond.selects RX9 yX9_placeRefusal yX9_placeRefusal ∈ lw_gd := List.mem_filter.mpr ⟨List.mem_of_getElem? (i := 2) (by decide +kernel), by decide +kernel⟩
theorem vX9_placeRefusal : wm_calV t_X9_placeRefusal 3 := ⟨⟨wd_427, wd_77, by decide +kernel, by decide +kernel, by decide +kernel⟩, wd_426, wd_2⟩
theorem dX9_placeRefusal_0 : decode t_X9_placeRefusal.2.1 0 = .ok (.aload_n 0, 1) := by decide +kernel
theorem dX9_placeRefusal_1 : decode t_X9_placeRefusal.2.1 1 = .ok (.aload_n 1, 1) := by decide +kernel
theorem dX9_placeRefusal_2 : decode t_X9_placeRefusal.2.1 2 = .ok (.iload_n 2, 1) := by decide +kernel
theorem dX9_placeRefusal_3 : decode t_X9_placeRefusal.2.1 3 = .ok (.invokevirtual 120, 3) := by decide +kernel
theorem iX9_placeRefusal_3 : wm_iv t_X9_placeRefusal t_X9_refusal 3 := ⟨120, wd_428, dX9_placeRefusal_3⟩
theorem dX9_placeRefusal_6 : decode t_X9_placeRefusal.2.1 6 = .ok (.istore 4, 2) := by decide +kernel
theorem dX9_placeRefusal_8 : decode t_X9_placeRefusal.2.1 8 = .ok (.iload 4, 2) := by decide +kernel
theorem dX9_placeRefusal_10 : decode t_X9_placeRefusal.2.1 10 = .ok (.ifCond .eq 6, 3) := by decide +kernel
theorem dX9_placeRefusal_13 : decode t_X9_placeRefusal.2.1 13 = .ok (.iload 4, 2) := by decide +kernel
theorem dX9_placeRefusal_15 : decode t_X9_placeRefusal.2.1 15 = .ok (.ireturn, 1) := by decide +kernel
theorem dX9_placeRefusal_16 : decode t_X9_placeRefusal.2.1 16 = .ok (.aload_n 1, 1) := by decide +kernel
theorem dX9_placeRefusal_17 : decode t_X9_placeRefusal.2.1 17 = .ok (.iload_n 2, 1) := by decide +kernel
theorem dX9_placeRefusal_18 : decode t_X9_placeRefusal.2.1 18 = .ok (.iload_n 3, 1) := by decide +kernel
theorem dX9_placeRefusal_19 : decode t_X9_placeRefusal.2.1 19 = .ok (.iconst 1, 1) := by decide +kernel
theorem dX9_placeRefusal_20 : decode t_X9_placeRefusal.2.1 20 = .ok (.invokevirtual 139, 3) := by decide +kernel
theorem iX9_placeRefusal_20 : wm_iv t_X9_placeRefusal t_X5_holds 20 := ⟨139, wd_436, dX9_placeRefusal_20⟩
theorem dX9_placeRefusal_23 : decode t_X9_placeRefusal.2.1 23 = .ok (.ifCond .eq 7, 3) := by decide +kernel
theorem dX9_placeRefusal_26 : decode t_X9_placeRefusal.2.1 26 = .ok (.iconst 0, 1) := by decide +kernel
theorem dX9_placeRefusal_27 : decode t_X9_placeRefusal.2.1 27 = .ok (.goto 8, 3) := by decide +kernel
theorem dX9_placeRefusal_30 : decode t_X9_placeRefusal.2.1 30 = .ok (.aload_n 0, 1) := by decide +kernel
theorem dX9_placeRefusal_31 : decode t_X9_placeRefusal.2.1 31 = .ok (.iconst 2, 1) := by decide +kernel
theorem dX9_placeRefusal_32 : decode t_X9_placeRefusal.2.1 32 = .ok (.invokevirtual 132, 3) := by decide +kernel
theorem iX9_placeRefusal_32 : wm_iv t_X9_placeRefusal t_X9_find 32 := ⟨132, wd_401, dX9_placeRefusal_32⟩
theorem dX9_placeRefusal_35 : decode t_X9_placeRefusal.2.1 35 = .ok (.ireturn, 1) := by decide +kernel
theorem wd_396 : Cond.code yX9_begin cX9_begin 5 (some .int) ∈ lw_gd := List.mem_filter.mpr ⟨List.mem_of_getElem? (i := 396) (by decide +kernel), by decide +kernel⟩
theorem wd_395 : Cond.instanceMethod yX9_begin ∈ lw_gd := List.mem_filter.mpr ⟨List.mem_of_getElem? (i := 395) (by decide +kernel), by decide +kernel⟩
theorem wd_0 : Cond.selects RX9 yX9_begin yX9_begin ∈ lw_gd := List.mem_filter.mpr ⟨List.mem_of_getElem? (i := 0) (by decide +kernel), by decide +kernel⟩
theorem vX9_begin : wm_calV t_X9_begin 4 := ⟨⟨wd_396, wd_77, by decide +kernel, by decide +kernel, by decide +kernel⟩, wd_395, wd_0⟩
theorem dX9_begin_0 : decode t_X9_begin.2.1 0 = .ok (.aload_n 1, 1) := by decide +kernel
theorem dX9_begin_1 : decode t_X9_begin.2.1 1 = .ok (.iload_n 2, 1) := by decide +kernel
theorem dX9_begin_2 : decode t_X9_begin.2.1 2 = .ok (.invokevirtual 128, 3) := by decide +kernel
theorem iX9_begin_2 : wm_iv t_X9_begin t_X5_knows 2 := ⟨128, wd_397, dX9_begin_2⟩
theorem dX9_begin_5 : decode t_X9_begin.2.1 5 = .ok (.ifCond .eq 11, 3) := by decide +kernel
theorem dX9_begin_8 : decode t_X9_begin.2.1 8 = .ok (.iload_n 3, 1) := by decide +kernel
theorem dX9_begin_9 : decode t_X9_begin.2.1 9 = .ok (.aload_n 1, 1) := by decide +kernel
theorem dX9_begin_10 : decode t_X9_begin.2.1 10 = .ok (.getfield 351, 3) := by decide +kernel
theorem wd_113 : Cond.fieldLink RX9 351 "TurnedStones$Table" "longest" "I" ∈ lw_gd := List.mem_filter.mpr ⟨List.mem_of_getElem? (i := 113) (by decide +kernel), by decide +kernel⟩
theorem gX9_begin_10 : wm_gf t_X9_begin 10 5 0 := ⟨_, _, _, 351, rfl, by decide, wd_113, dX9_begin_10⟩
theorem dX9_begin_13 : decode t_X9_begin.2.1 13 = .ok (.if_icmp .le 5, 3) := by decide +kernel
theorem dX9_begin_16 : decode t_X9_begin.2.1 16 = .ok (.iconst (-1), 1) := by decide +kernel
theorem dX9_begin_17 : decode t_X9_begin.2.1 17 = .ok (.ireturn, 1) := by decide +kernel
theorem dX9_begin_18 : decode t_X9_begin.2.1 18 = .ok (.iload_n 3, 1) := by decide +kernel
theorem dX9_begin_19 : decode t_X9_begin.2.1 19 = .ok (.ifCond .ge 9, 3) := by decide +kernel
theorem dX9_begin_22 : decode t_X9_begin.2.1 22 = .ok (.aload_n 0, 1) := by decide +kernel
theorem dX9_begin_23 : decode t_X9_begin.2.1 23 = .ok (.iconst 5, 1) := by decide +kernel
theorem dX9_begin_24 : decode t_X9_begin.2.1 24 = .ok (.invokevirtual 132, 3) := by decide +kernel
theorem iX9_begin_24 : wm_iv t_X9_begin t_X9_find 24 := ⟨132, wd_401, dX9_begin_24⟩
theorem dX9_begin_27 : decode t_X9_begin.2.1 27 = .ok (.ireturn, 1) := by decide +kernel
theorem dX9_begin_28 : decode t_X9_begin.2.1 28 = .ok (.aload_n 1, 1) := by decide +kernel
theorem dX9_begin_29 : decode t_X9_begin.2.1 29 = .ok (.iload_n 2, 1) := by decide +kernel
theorem dX9_begin_30 : decode t_X9_begin.2.1 30 = .ok (.iload_n 3, 1) := by decide +kernel
theorem dX9_begin_31 : decode t_X9_begin.2.1 31 = .ok (.iload 4, 2) := by decide +kernel
theorem dX9_begin_33 : decode t_X9_begin.2.1 33 = .ok (.invokevirtual 204, 3) := by decide +kernel
theorem iX9_begin_33 : wm_iv t_X9_begin t_X5_begin 33 := ⟨204, wd_409, dX9_begin_33⟩
theorem dX9_begin_36 : decode t_X9_begin.2.1 36 = .ok (.iload_n 3, 1) := by decide +kernel
theorem dX9_begin_37 : decode t_X9_begin.2.1 37 = .ok (.ireturn, 1) := by decide +kernel
theorem wd_675 : Cond.code yX9_holdsWords cX9_holdsWords 5 (some .boolean) ∈ lw_gd := List.mem_filter.mpr ⟨List.mem_of_getElem? (i := 675) (by decide +kernel), by decide +kernel⟩
theorem wd_674 : Cond.instanceMethod yX9_holdsWords ∈ lw_gd := List.mem_filter.mpr ⟨List.mem_of_getElem? (i := 674) (by decide +kernel), by decide +kernel⟩
theorem wd_15 : Cond.selects RX9 yX9_holdsWords yX9_holdsWords ∈ lw_gd := List.mem_filter.mpr ⟨List.mem_of_getElem? (i := 15) (by decide +kernel), by decide +kernel⟩
theorem vX9_holdsWords : wm_calV t_X9_holdsWords 2 := ⟨⟨wd_675, wd_77, by decide +kernel, by decide +kernel, by decide +kernel⟩, wd_674, wd_15⟩
theorem dX9_holdsWords_0 : decode t_X9_holdsWords.2.1 0 = .ok (.iconst 0, 1) := by decide +kernel
theorem dX9_holdsWords_1 : decode t_X9_holdsWords.2.1 1 = .ok (.istore_n 3, 1) := by decide +kernel
theorem dX9_holdsWords_2 : decode t_X9_holdsWords.2.1 2 = .ok (.iload_n 3, 1) := by decide +kernel
theorem dX9_holdsWords_3 : decode t_X9_holdsWords.2.1 3 = .ok (.aload_n 0, 1) := by decide +kernel
theorem dX9_holdsWords_4 : decode t_X9_holdsWords.2.1 4 = .ok (.getfield 14, 3) := by decide +kernel
theorem gX9_holdsWords_4 : wm_gf t_X9_holdsWords 4 9 0 := ⟨_, _, _, 14, rfl, by decide, wd_346, dX9_holdsWords_4⟩
theorem dX9_holdsWords_7 : decode t_X9_holdsWords.2.1 7 = .ok (.iload_n 1, 1) := by decide +kernel
theorem dX9_holdsWords_8 : decode t_X9_holdsWords.2.1 8 = .ok (.invokevirtual 147, 3) := by decide +kernel
theorem iX9_holdsWords_8 : wm_iv t_X9_holdsWords t_X5_size 8 := ⟨147, wd_476, dX9_holdsWords_8⟩
theorem dX9_holdsWords_11 : decode t_X9_holdsWords.2.1 11 = .ok (.if_icmp .ge 35, 3) := by decide +kernel
theorem dX9_holdsWords_14 : decode t_X9_holdsWords.2.1 14 = .ok (.aload_n 0, 1) := by decide +kernel
theorem dX9_holdsWords_15 : decode t_X9_holdsWords.2.1 15 = .ok (.getfield 14, 3) := by decide +kernel
theorem gX9_holdsWords_15 : wm_gf t_X9_holdsWords 15 9 0 := ⟨_, _, _, 14, rfl, by decide, wd_346, dX9_holdsWords_15⟩
theorem dX9_holdsWords_18 : decode t_X9_holdsWords.2.1 18 = .ok (.iload_n 1, 1) := by decide +kernel
theorem dX9_holdsWords_19 : decode t_X9_holdsWords.2.1 19 = .ok (.iload_n 3, 1) := by decide +kernel
theorem dX9_holdsWords_20 : decode t_X9_holdsWords.2.1 20 = .ok (.invokevirtual 109, 3) := by decide +kernel
theorem iX9_holdsWords_20 : wm_iv t_X9_holdsWords t_X5_get 20 := ⟨109, wd_440, dX9_holdsWords_20⟩
theorem dX9_holdsWords_23 : decode t_X9_holdsWords.2.1 23 = .ok (.istore 4, 2) := by decide +kernel
theorem dX9_holdsWords_25 : decode t_X9_holdsWords.2.1 25 = .ok (.iload 4, 2) := by decide +kernel
theorem dX9_holdsWords_27 : decode t_X9_holdsWords.2.1 27 = .ok (.iload_n 2, 1) := by decide +kernel
theorem dX9_holdsWords_28 : decode t_X9_holdsWords.2.1 28 = .ok (.if_icmp .lt 10, 3) := by decide +kernel
theorem dX9_holdsWords_31 : decode t_X9_holdsWords.2.1 31 = .ok (.iload 4, 2) := by decide +kernel
theorem dX9_holdsWords_33 : decode t_X9_holdsWords.2.1 33 = .ok (.bipush 8, 2) := by decide +kernel
theorem dX9_holdsWords_35 : decode t_X9_holdsWords.2.1 35 = .ok (.if_icmp .lt 5, 3) := by decide +kernel
theorem dX9_holdsWords_38 : decode t_X9_holdsWords.2.1 38 = .ok (.iconst 0, 1) := by decide +kernel
theorem dX9_holdsWords_39 : decode t_X9_holdsWords.2.1 39 = .ok (.ireturn, 1) := by decide +kernel
theorem dX9_holdsWords_40 : decode t_X9_holdsWords.2.1 40 = .ok (.iinc 3 1, 3) := by decide +kernel
theorem dX9_holdsWords_43 : decode t_X9_holdsWords.2.1 43 = .ok (.goto (-41), 3) := by decide +kernel
theorem dX9_holdsWords_46 : decode t_X9_holdsWords.2.1 46 = .ok (.iconst 1, 1) := by decide +kernel
theorem dX9_holdsWords_47 : decode t_X9_holdsWords.2.1 47 = .ok (.ireturn, 1) := by decide +kernel
theorem wd_692 : Cond.code yX9_isStreetEnd cX9_isStreetEnd 3 (some .boolean) ∈ lw_gd := List.mem_filter.mpr ⟨List.mem_of_getElem? (i := 692) (by decide +kernel), by decide +kernel⟩
theorem wd_691 : Cond.instanceMethod yX9_isStreetEnd ∈ lw_gd := List.mem_filter.mpr ⟨List.mem_of_getElem? (i := 691) (by decide +kernel), by decide +kernel⟩
theorem wd_16 : Cond.selects RX9 yX9_isStreetEnd yX9_isStreetEnd ∈ lw_gd := List.mem_filter.mpr ⟨List.mem_of_getElem? (i := 16) (by decide +kernel), by decide +kernel⟩
theorem vX9_isStreetEnd : wm_calV t_X9_isStreetEnd 2 := ⟨⟨wd_692, wd_77, by decide +kernel, by decide +kernel, by decide +kernel⟩, wd_691, wd_16⟩
theorem dX9_isStreetEnd_0 : decode t_X9_isStreetEnd.2.1 0 = .ok (.iload_n 1, 1) := by decide +kernel
theorem dX9_isStreetEnd_1 : decode t_X9_isStreetEnd.2.1 1 = .ok (.ifCond .lt 27, 3) := by decide +kernel
theorem dX9_isStreetEnd_4 : decode t_X9_isStreetEnd.2.1 4 = .ok (.iload_n 1, 1) := by decide +kernel
theorem dX9_isStreetEnd_5 : decode t_X9_isStreetEnd.2.1 5 = .ok (.aload_n 0, 1) := by decide +kernel
theorem dX9_isStreetEnd_6 : decode t_X9_isStreetEnd.2.1 6 = .ok (.getfield 24, 3) := by decide +kernel
theorem gX9_isStreetEnd_6 : wm_gf t_X9_isStreetEnd 6 9 2 := ⟨_, _, _, 24, rfl, by decide, wd_348, dX9_isStreetEnd_6⟩
theorem dX9_isStreetEnd_9 : decode t_X9_isStreetEnd.2.1 9 = .ok (.invokevirtual 354, 3) := by decide +kernel
theorem wd_693 : Cond.methodLink RX9 354 yX4_streets ∈ lw_gd := List.mem_filter.mpr ⟨List.mem_of_getElem? (i := 693) (by decide +kernel), by decide +kernel⟩
theorem iX9_isStreetEnd_9 : wm_iv t_X9_isStreetEnd t_X4_streets 9 := ⟨354, wd_693, dX9_isStreetEnd_9⟩
theorem dX9_isStreetEnd_12 : decode t_X9_isStreetEnd.2.1 12 = .ok (.if_icmp .ge 16, 3) := by decide +kernel
theorem dX9_isStreetEnd_15 : decode t_X9_isStreetEnd.2.1 15 = .ok (.iload_n 2, 1) := by decide +kernel
theorem dX9_isStreetEnd_16 : decode t_X9_isStreetEnd.2.1 16 = .ok (.ifCond .lt 12, 3) := by decide +kernel
theorem dX9_isStreetEnd_19 : decode t_X9_isStreetEnd.2.1 19 = .ok (.iload_n 2, 1) := by decide +kernel
theorem dX9_isStreetEnd_20 : decode t_X9_isStreetEnd.2.1 20 = .ok (.iconst 2, 1) := by decide +kernel
theorem dX9_isStreetEnd_21 : decode t_X9_isStreetEnd.2.1 21 = .ok (.if_icmp .ge 7, 3) := by decide +kernel
theorem dX9_isStreetEnd_24 : decode t_X9_isStreetEnd.2.1 24 = .ok (.iconst 1, 1) := by decide +kernel
theorem dX9_isStreetEnd_25 : decode t_X9_isStreetEnd.2.1 25 = .ok (.goto 4, 3) := by decide +kernel
theorem dX9_isStreetEnd_28 : decode t_X9_isStreetEnd.2.1 28 = .ok (.iconst 0, 1) := by decide +kernel
theorem dX9_isStreetEnd_29 : decode t_X9_isStreetEnd.2.1 29 = .ok (.ireturn, 1) := by decide +kernel
theorem wd_791 : Cond.code yX9_isLawSet cX9_isLawSet 1 (some .boolean) ∈ lw_gd := List.mem_filter.mpr ⟨List.mem_of_getElem? (i := 791) (by decide +kernel), by decide +kernel⟩
theorem wd_790 : Cond.static yX9_isLawSet ∈ lw_gd := List.mem_filter.mpr ⟨List.mem_of_getElem? (i := 790) (by decide +kernel), by decide +kernel⟩
theorem vX9_isLawSet : wm_calS t_X9_isLawSet 1 := ⟨⟨wd_791, wd_77, by decide +kernel, by decide +kernel, by decide +kernel⟩, wd_790⟩
theorem dX9_isLawSet_0 : decode t_X9_isLawSet.2.1 0 = .ok (.iload_n 0, 1) := by decide +kernel
theorem dX9_isLawSet_1 : decode t_X9_isLawSet.2.1 1 = .ok (.ifCond .lt 13, 3) := by decide +kernel
theorem dX9_isLawSet_4 : decode t_X9_isLawSet.2.1 4 = .ok (.iload_n 0, 1) := by decide +kernel
theorem dX9_isLawSet_5 : decode t_X9_isLawSet.2.1 5 = .ok (.bipush 16, 2) := by decide +kernel
theorem dX9_isLawSet_7 : decode t_X9_isLawSet.2.1 7 = .ok (.if_icmp .ge 7, 3) := by decide +kernel
theorem dX9_isLawSet_10 : decode t_X9_isLawSet.2.1 10 = .ok (.iconst 1, 1) := by decide +kernel
theorem dX9_isLawSet_11 : decode t_X9_isLawSet.2.1 11 = .ok (.goto 4, 3) := by decide +kernel
theorem dX9_isLawSet_14 : decode t_X9_isLawSet.2.1 14 = .ok (.iconst 0, 1) := by decide +kernel
theorem dX9_isLawSet_15 : decode t_X9_isLawSet.2.1 15 = .ok (.ireturn, 1) := by decide +kernel
theorem wd_932 : Cond.code yX9_isToldYear cX9_isToldYear 1 (some .boolean) ∈ lw_gd := List.mem_filter.mpr ⟨List.mem_of_getElem? (i := 932) (by decide +kernel), by decide +kernel⟩
theorem wd_931 : Cond.static yX9_isToldYear ∈ lw_gd := List.mem_filter.mpr ⟨List.mem_of_getElem? (i := 931) (by decide +kernel), by decide +kernel⟩
theorem vX9_isToldYear : wm_calS t_X9_isToldYear 1 := ⟨⟨wd_932, wd_77, by decide +kernel, by decide +kernel, by decide +kernel⟩, wd_931⟩
theorem dX9_isToldYear_0 : decode t_X9_isToldYear.2.1 0 = .ok (.iload_n 0, 1) := by decide +kernel
theorem dX9_isToldYear_1 : decode t_X9_isToldYear.2.1 1 = .ok (.ifCond .lt 13, 3) := by decide +kernel
theorem dX9_isToldYear_4 : decode t_X9_isToldYear.2.1 4 = .ok (.iload_n 0, 1) := by decide +kernel
theorem dX9_isToldYear_5 : decode t_X9_isToldYear.2.1 5 = .ok (.bipush 9, 2) := by decide +kernel
theorem dX9_isToldYear_7 : decode t_X9_isToldYear.2.1 7 = .ok (.if_icmp .gt 7, 3) := by decide +kernel
theorem dX9_isToldYear_10 : decode t_X9_isToldYear.2.1 10 = .ok (.iconst 1, 1) := by decide +kernel
theorem dX9_isToldYear_11 : decode t_X9_isToldYear.2.1 11 = .ok (.goto 4, 3) := by decide +kernel
theorem dX9_isToldYear_14 : decode t_X9_isToldYear.2.1 14 = .ok (.iconst 0, 1) := by decide +kernel
theorem dX9_isToldYear_15 : decode t_X9_isToldYear.2.1 15 = .ok (.ireturn, 1) := by decide +kernel
theorem wd_752 : Cond.code yX9_mayTurn cX9_mayTurn 2 (some .boolean) ∈ lw_gd := List.mem_filter.mpr ⟨List.mem_of_getElem? (i := 752) (by decide +kernel), by decide +kernel⟩
theorem wd_751 : Cond.instanceMethod yX9_mayTurn ∈ lw_gd := List.mem_filter.mpr ⟨List.mem_of_getElem? (i := 751) (by decide +kernel), by decide +kernel⟩
theorem wd_20 : Cond.selects RX9 yX9_mayTurn yX9_mayTurn ∈ lw_gd := List.mem_filter.mpr ⟨List.mem_of_getElem? (i := 20) (by decide +kernel), by decide +kernel⟩
theorem vX9_mayTurn : wm_calV t_X9_mayTurn 1 := ⟨⟨wd_752, wd_77, by decide +kernel, by decide +kernel, by decide +kernel⟩, wd_751, wd_20⟩
theorem dX9_mayTurn_0 : decode t_X9_mayTurn.2.1 0 = .ok (.iload_n 1, 1) := by decide +kernel
theorem dX9_mayTurn_1 : decode t_X9_mayTurn.2.1 1 = .ok (.bipush (-9), 2) := by decide +kernel
theorem dX9_mayTurn_3 : decode t_X9_mayTurn.2.1 3 = .ok (.if_icmp .eq 26, 3) := by decide +kernel
theorem dX9_mayTurn_6 : decode t_X9_mayTurn.2.1 6 = .ok (.aload_n 0, 1) := by decide +kernel
theorem dX9_mayTurn_7 : decode t_X9_mayTurn.2.1 7 = .ok (.getfield 24, 3) := by decide +kernel
theorem gX9_mayTurn_7 : wm_gf t_X9_mayTurn 7 9 2 := ⟨_, _, _, 24, rfl, by decide, wd_348, dX9_mayTurn_7⟩
theorem dX9_mayTurn_10 : decode t_X9_mayTurn.2.1 10 = .ok (.iload_n 1, 1) := by decide +kernel
theorem dX9_mayTurn_11 : decode t_X9_mayTurn.2.1 11 = .ok (.invokevirtual 166, 3) := by decide +kernel
theorem iX9_mayTurn_11 : wm_iv t_X9_mayTurn t_X4_knows 11 := ⟨166, wd_637, dX9_mayTurn_11⟩
theorem dX9_mayTurn_14 : decode t_X9_mayTurn.2.1 14 = .ok (.ifCond .eq 19, 3) := by decide +kernel
theorem dX9_mayTurn_17 : decode t_X9_mayTurn.2.1 17 = .ok (.aload_n 0, 1) := by decide +kernel
theorem dX9_mayTurn_18 : decode t_X9_mayTurn.2.1 18 = .ok (.getfield 24, 3) := by decide +kernel
theorem gX9_mayTurn_18 : wm_gf t_X9_mayTurn 18 9 2 := ⟨_, _, _, 24, rfl, by decide, wd_348, dX9_mayTurn_18⟩
theorem dX9_mayTurn_21 : decode t_X9_mayTurn.2.1 21 = .ok (.iload_n 1, 1) := by decide +kernel
theorem dX9_mayTurn_22 : decode t_X9_mayTurn.2.1 22 = .ok (.iconst 2, 1) := by decide +kernel
theorem dX9_mayTurn_23 : decode t_X9_mayTurn.2.1 23 = .ok (.invokevirtual 170, 3) := by decide +kernel
theorem iX9_mayTurn_23 : wm_iv t_X9_mayTurn t_X4_isOf 23 := ⟨170, wd_649, dX9_mayTurn_23⟩
theorem dX9_mayTurn_26 : decode t_X9_mayTurn.2.1 26 = .ok (.ifCond .ne 7, 3) := by decide +kernel
theorem dX9_mayTurn_29 : decode t_X9_mayTurn.2.1 29 = .ok (.iconst 1, 1) := by decide +kernel
theorem dX9_mayTurn_30 : decode t_X9_mayTurn.2.1 30 = .ok (.goto 4, 3) := by decide +kernel
theorem dX9_mayTurn_33 : decode t_X9_mayTurn.2.1 33 = .ok (.iconst 0, 1) := by decide +kernel
theorem dX9_mayTurn_34 : decode t_X9_mayTurn.2.1 34 = .ok (.ireturn, 1) := by decide +kernel
theorem wd_756 : Cond.code yX9_passYear cX9_passYear 2 (none) ∈ lw_gd := List.mem_filter.mpr ⟨List.mem_of_getElem? (i := 756) (by decide +kernel), by decide +kernel⟩
theorem wd_755 : Cond.instanceMethod yX9_passYear ∈ lw_gd := List.mem_filter.mpr ⟨List.mem_of_getElem? (i := 755) (by decide +kernel), by decide +kernel⟩
theorem wd_21 : Cond.selects RX9 yX9_passYear yX9_passYear ∈ lw_gd := List.mem_filter.mpr ⟨List.mem_of_getElem? (i := 21) (by decide +kernel), by decide +kernel⟩
theorem vX9_passYear : wm_calV t_X9_passYear 1 := ⟨⟨wd_756, wd_77, by decide +kernel, by decide +kernel, by decide +kernel⟩, wd_755, wd_21⟩
theorem dX9_passYear_0 : decode t_X9_passYear.2.1 0 = .ok (.iload_n 1, 1) := by decide +kernel
theorem dX9_passYear_1 : decode t_X9_passYear.2.1 1 = .ok (.bipush (-9), 2) := by decide +kernel
theorem dX9_passYear_3 : decode t_X9_passYear.2.1 3 = .ok (.if_icmp .eq 19, 3) := by decide +kernel
theorem dX9_passYear_6 : decode t_X9_passYear.2.1 6 = .ok (.aload_n 0, 1) := by decide +kernel
theorem dX9_passYear_7 : decode t_X9_passYear.2.1 7 = .ok (.aload_n 0, 1) := by decide +kernel
theorem dX9_passYear_8 : decode t_X9_passYear.2.1 8 = .ok (.getfield 24, 3) := by decide +kernel
theorem gX9_passYear_8 : wm_gf t_X9_passYear 8 9 2 := ⟨_, _, _, 24, rfl, by decide, wd_348, dX9_passYear_8⟩
theorem dX9_passYear_11 : decode t_X9_passYear.2.1 11 = .ok (.aload_n 0, 1) := by decide +kernel
theorem dX9_passYear_12 : decode t_X9_passYear.2.1 12 = .ok (.getfield 88, 3) := by decide +kernel
theorem gX9_passYear_12 : wm_gf t_X9_passYear 12 9 12 := ⟨_, _, _, 88, rfl, by decide, wd_358, dX9_passYear_12⟩
theorem dX9_passYear_15 : decode t_X9_passYear.2.1 15 = .ok (.iload_n 1, 1) := by decide +kernel
theorem dX9_passYear_16 : decode t_X9_passYear.2.1 16 = .ok (.invokevirtual 251, 3) := by decide +kernel
theorem iX9_passYear_16 : wm_iv t_X9_passYear t_X4_moved 16 := ⟨251, wd_757, dX9_passYear_16⟩
theorem dX9_passYear_19 : decode t_X9_passYear.2.1 19 = .ok (.putfield 88, 3) := by decide +kernel
theorem gX9_passYear_19 : wm_pf t_X9_passYear 19 9 12 .int := ⟨_, _, _, 88, rfl, by decide, wd_358, dX9_passYear_19, rfl, by decide +kernel⟩
theorem dX9_passYear_22 : decode t_X9_passYear.2.1 22 = .ok (.aload_n 0, 1) := by decide +kernel
theorem dX9_passYear_23 : decode t_X9_passYear.2.1 23 = .ok (.dup, 1) := by decide +kernel
theorem dX9_passYear_24 : decode t_X9_passYear.2.1 24 = .ok (.getfield 92, 3) := by decide +kernel
theorem gX9_passYear_24 : wm_gf t_X9_passYear 24 9 13 := ⟨_, _, _, 92, rfl, by decide, wd_359, dX9_passYear_24⟩
theorem dX9_passYear_27 : decode t_X9_passYear.2.1 27 = .ok (.iconst 1, 1) := by decide +kernel
theorem dX9_passYear_28 : decode t_X9_passYear.2.1 28 = .ok (.iadd, 1) := by decide +kernel
theorem dX9_passYear_29 : decode t_X9_passYear.2.1 29 = .ok (.putfield 92, 3) := by decide +kernel
theorem gX9_passYear_29 : wm_pf t_X9_passYear 29 9 13 .int := ⟨_, _, _, 92, rfl, by decide, wd_359, dX9_passYear_29, rfl, by decide +kernel⟩
theorem dX9_passYear_32 : decode t_X9_passYear.2.1 32 = .ok (.return_, 1) := by decide +kernel
theorem wd_641 : Cond.code yX9_stoneTells cX9_stoneTells 3 (some .int) ∈ lw_gd := List.mem_filter.mpr ⟨List.mem_of_getElem? (i := 641) (by decide +kernel), by decide +kernel⟩
theorem wd_640 : Cond.instanceMethod yX9_stoneTells ∈ lw_gd := List.mem_filter.mpr ⟨List.mem_of_getElem? (i := 640) (by decide +kernel), by decide +kernel⟩
theorem wd_14 : Cond.selects RX9 yX9_stoneTells yX9_stoneTells ∈ lw_gd := List.mem_filter.mpr ⟨List.mem_of_getElem? (i := 14) (by decide +kernel), by decide +kernel⟩
theorem vX9_stoneTells : wm_calV t_X9_stoneTells 2 := ⟨⟨wd_641, wd_77, by decide +kernel, by decide +kernel, by decide +kernel⟩, wd_640, wd_14⟩
theorem dX9_stoneTells_0 : decode t_X9_stoneTells.2.1 0 = .ok (.iload_n 2, 1) := by decide +kernel
theorem dX9_stoneTells_1 : decode t_X9_stoneTells.2.1 1 = .ok (.lookupswitch 46 #[(0, 27), (1, 37)], 27) := by decide +kernel
theorem dX9_stoneTells_28 : decode t_X9_stoneTells.2.1 28 = .ok (.aload_n 0, 1) := by decide +kernel
theorem dX9_stoneTells_29 : decode t_X9_stoneTells.2.1 29 = .ok (.getfield 24, 3) := by decide +kernel
theorem gX9_stoneTells_29 : wm_gf t_X9_stoneTells 29 9 2 := ⟨_, _, _, 24, rfl, by decide, wd_348, dX9_stoneTells_29⟩
theorem dX9_stoneTells_32 : decode t_X9_stoneTells.2.1 32 = .ok (.getfield 357, 3) := by decide +kernel
theorem wd_137 : Cond.fieldLink RX9 357 "TurnedStones$Stones" "kinds" "[I" ∈ lw_gd := List.mem_filter.mpr ⟨List.mem_of_getElem? (i := 137) (by decide +kernel), by decide +kernel⟩
theorem gX9_stoneTells_32 : wm_gf t_X9_stoneTells 32 4 2 := ⟨_, _, _, 357, rfl, by decide, wd_137, dX9_stoneTells_32⟩
theorem dX9_stoneTells_35 : decode t_X9_stoneTells.2.1 35 = .ok (.iload_n 1, 1) := by decide +kernel
theorem dX9_stoneTells_36 : decode t_X9_stoneTells.2.1 36 = .ok (.iaload, 1) := by decide +kernel
theorem dX9_stoneTells_37 : decode t_X9_stoneTells.2.1 37 = .ok (.ireturn, 1) := by decide +kernel
theorem dX9_stoneTells_38 : decode t_X9_stoneTells.2.1 38 = .ok (.aload_n 0, 1) := by decide +kernel
theorem dX9_stoneTells_39 : decode t_X9_stoneTells.2.1 39 = .ok (.getfield 88, 3) := by decide +kernel
theorem gX9_stoneTells_39 : wm_gf t_X9_stoneTells 39 9 12 := ⟨_, _, _, 88, rfl, by decide, wd_358, dX9_stoneTells_39⟩
theorem dX9_stoneTells_42 : decode t_X9_stoneTells.2.1 42 = .ok (.iload_n 1, 1) := by decide +kernel
theorem dX9_stoneTells_43 : decode t_X9_stoneTells.2.1 43 = .ok (.invokestatic 360, 3) := by decide +kernel
theorem wd_642 : Cond.methodLink RX9 360 yX4_quarters ∈ lw_gd := List.mem_filter.mpr ⟨List.mem_of_getElem? (i := 642) (by decide +kernel), by decide +kernel⟩
theorem iX9_stoneTells_43 : wm_is t_X9_stoneTells t_X4_quarters 43 := ⟨360, wd_642, dX9_stoneTells_43⟩
theorem dX9_stoneTells_46 : decode t_X9_stoneTells.2.1 46 = .ok (.ireturn, 1) := by decide +kernel
theorem dX9_stoneTells_47 : decode t_X9_stoneTells.2.1 47 = .ok (.aload_n 0, 1) := by decide +kernel
theorem dX9_stoneTells_48 : decode t_X9_stoneTells.2.1 48 = .ok (.getfield 24, 3) := by decide +kernel
theorem gX9_stoneTells_48 : wm_gf t_X9_stoneTells 48 9 2 := ⟨_, _, _, 24, rfl, by decide, wd_348, dX9_stoneTells_48⟩
theorem dX9_stoneTells_51 : decode t_X9_stoneTells.2.1 51 = .ok (.getfield 363, 3) := by decide +kernel
theorem wd_141 : Cond.fieldLink RX9 363 "TurnedStones$Stones" "words" "[I" ∈ lw_gd := List.mem_filter.mpr ⟨List.mem_of_getElem? (i := 141) (by decide +kernel), by decide +kernel⟩
theorem gX9_stoneTells_51 : wm_gf t_X9_stoneTells 51 4 3 := ⟨_, _, _, 363, rfl, by decide, wd_141, dX9_stoneTells_51⟩
theorem dX9_stoneTells_54 : decode t_X9_stoneTells.2.1 54 = .ok (.iconst 4, 1) := by decide +kernel
theorem dX9_stoneTells_55 : decode t_X9_stoneTells.2.1 55 = .ok (.iload_n 1, 1) := by decide +kernel
theorem dX9_stoneTells_56 : decode t_X9_stoneTells.2.1 56 = .ok (.imul, 1) := by decide +kernel
theorem dX9_stoneTells_57 : decode t_X9_stoneTells.2.1 57 = .ok (.iload_n 2, 1) := by decide +kernel
theorem dX9_stoneTells_58 : decode t_X9_stoneTells.2.1 58 = .ok (.iadd, 1) := by decide +kernel
theorem dX9_stoneTells_59 : decode t_X9_stoneTells.2.1 59 = .ok (.iconst 2, 1) := by decide +kernel
theorem dX9_stoneTells_60 : decode t_X9_stoneTells.2.1 60 = .ok (.isub, 1) := by decide +kernel
theorem dX9_stoneTells_61 : decode t_X9_stoneTells.2.1 61 = .ok (.iaload, 1) := by decide +kernel
theorem dX9_stoneTells_62 : decode t_X9_stoneTells.2.1 62 = .ok (.ireturn, 1) := by decide +kernel
theorem wd_1072 : Cond.code yX9_tally cX9_tally 2 (some .int) ∈ lw_gd := List.mem_filter.mpr ⟨List.mem_of_getElem? (i := 1072) (by decide +kernel), by decide +kernel⟩
theorem wd_1071 : Cond.instanceMethod yX9_tally ∈ lw_gd := List.mem_filter.mpr ⟨List.mem_of_getElem? (i := 1071) (by decide +kernel), by decide +kernel⟩
theorem wd_33 : Cond.selects RX9 yX9_tally yX9_tally ∈ lw_gd := List.mem_filter.mpr ⟨List.mem_of_getElem? (i := 33) (by decide +kernel), by decide +kernel⟩
theorem vX9_tally : wm_calV t_X9_tally 1 := ⟨⟨wd_1072, wd_77, by decide +kernel, by decide +kernel, by decide +kernel⟩, wd_1071, wd_33⟩
theorem dX9_tally_0 : decode t_X9_tally.2.1 0 = .ok (.iload_n 1, 1) := by decide +kernel
theorem dX9_tally_1 : decode t_X9_tally.2.1 1 = .ok (.tableswitch 104 0 6 #[43, 51, 59, 70, 79, 88, 96], 43) := by decide +kernel
theorem dX9_tally_44 : decode t_X9_tally.2.1 44 = .ok (.aload_n 0, 1) := by decide +kernel
theorem dX9_tally_45 : decode t_X9_tally.2.1 45 = .ok (.getfield 24, 3) := by decide +kernel
theorem gX9_tally_45 : wm_gf t_X9_tally 45 9 2 := ⟨_, _, _, 24, rfl, by decide, wd_348, dX9_tally_45⟩
theorem dX9_tally_48 : decode t_X9_tally.2.1 48 = .ok (.invokevirtual 162, 3) := by decide +kernel
theorem iX9_tally_48 : wm_iv t_X9_tally t_X4_number 48 := ⟨162, wd_632, dX9_tally_48⟩
theorem dX9_tally_51 : decode t_X9_tally.2.1 51 = .ok (.ireturn, 1) := by decide +kernel
theorem dX9_tally_52 : decode t_X9_tally.2.1 52 = .ok (.aload_n 0, 1) := by decide +kernel
theorem dX9_tally_53 : decode t_X9_tally.2.1 53 = .ok (.getfield 24, 3) := by decide +kernel
theorem gX9_tally_53 : wm_gf t_X9_tally 53 9 2 := ⟨_, _, _, 24, rfl, by decide, wd_348, dX9_tally_53⟩
theorem dX9_tally_56 : decode t_X9_tally.2.1 56 = .ok (.invokevirtual 354, 3) := by decide +kernel
theorem iX9_tally_56 : wm_iv t_X9_tally t_X4_streets 56 := ⟨354, wd_693, dX9_tally_56⟩
theorem dX9_tally_59 : decode t_X9_tally.2.1 59 = .ok (.ireturn, 1) := by decide +kernel
theorem dX9_tally_60 : decode t_X9_tally.2.1 60 = .ok (.aload_n 0, 1) := by decide +kernel
theorem dX9_tally_61 : decode t_X9_tally.2.1 61 = .ok (.getfield 45, 3) := by decide +kernel
theorem gX9_tally_61 : wm_gf t_X9_tally 61 9 5 := ⟨_, _, _, 45, rfl, by decide, wd_351, dX9_tally_61⟩
theorem dX9_tally_64 : decode t_X9_tally.2.1 64 = .ok (.getfield 186, 3) := by decide +kernel
theorem gX9_tally_64 : wm_gf t_X9_tally 64 0 0 := ⟨_, _, _, 186, rfl, by decide, wd_205, dX9_tally_64⟩
theorem dX9_tally_67 : decode t_X9_tally.2.1 67 = .ok (.invokevirtual 365, 3) := by decide +kernel
theorem wd_1073 : Cond.methodLink RX9 365 yX5_number ∈ lw_gd := List.mem_filter.mpr ⟨List.mem_of_getElem? (i := 1073) (by decide +kernel), by decide +kernel⟩
theorem iX9_tally_67 : wm_iv t_X9_tally t_X5_number 67 := ⟨365, wd_1073, dX9_tally_67⟩
theorem dX9_tally_70 : decode t_X9_tally.2.1 70 = .ok (.ireturn, 1) := by decide +kernel
theorem dX9_tally_71 : decode t_X9_tally.2.1 71 = .ok (.aload_n 0, 1) := by decide +kernel
theorem dX9_tally_72 : decode t_X9_tally.2.1 72 = .ok (.getfield 24, 3) := by decide +kernel
theorem gX9_tally_72 : wm_gf t_X9_tally 72 9 2 := ⟨_, _, _, 24, rfl, by decide, wd_348, dX9_tally_72⟩
theorem dX9_tally_75 : decode t_X9_tally.2.1 75 = .ok (.iconst 1, 1) := by decide +kernel
theorem dX9_tally_76 : decode t_X9_tally.2.1 76 = .ok (.invokevirtual 366, 3) := by decide +kernel
theorem wd_1077 : Cond.methodLink RX9 366 yX4_numberOf ∈ lw_gd := List.mem_filter.mpr ⟨List.mem_of_getElem? (i := 1077) (by decide +kernel), by decide +kernel⟩
theorem iX9_tally_76 : wm_iv t_X9_tally t_X4_numberOf 76 := ⟨366, wd_1077, dX9_tally_76⟩
theorem dX9_tally_79 : decode t_X9_tally.2.1 79 = .ok (.ireturn, 1) := by decide +kernel
theorem dX9_tally_80 : decode t_X9_tally.2.1 80 = .ok (.aload_n 0, 1) := by decide +kernel
theorem dX9_tally_81 : decode t_X9_tally.2.1 81 = .ok (.getfield 24, 3) := by decide +kernel
theorem gX9_tally_81 : wm_gf t_X9_tally 81 9 2 := ⟨_, _, _, 24, rfl, by decide, wd_348, dX9_tally_81⟩
theorem dX9_tally_84 : decode t_X9_tally.2.1 84 = .ok (.iconst 2, 1) := by decide +kernel
theorem dX9_tally_85 : decode t_X9_tally.2.1 85 = .ok (.invokevirtual 366, 3) := by decide +kernel
theorem iX9_tally_85 : wm_iv t_X9_tally t_X4_numberOf 85 := ⟨366, wd_1077, dX9_tally_85⟩
theorem dX9_tally_88 : decode t_X9_tally.2.1 88 = .ok (.ireturn, 1) := by decide +kernel
theorem dX9_tally_89 : decode t_X9_tally.2.1 89 = .ok (.aload_n 0, 1) := by decide +kernel
theorem dX9_tally_90 : decode t_X9_tally.2.1 90 = .ok (.getfield 61, 3) := by decide +kernel
theorem gX9_tally_90 : wm_gf t_X9_tally 90 9 7 := ⟨_, _, _, 61, rfl, by decide, wd_353, dX9_tally_90⟩
theorem dX9_tally_93 : decode t_X9_tally.2.1 93 = .ok (.getfield 292, 3) := by decide +kernel
theorem gX9_tally_93 : wm_gf t_X9_tally 93 2 0 := ⟨_, _, _, 292, rfl, by decide, wd_268, dX9_tally_93⟩
theorem dX9_tally_96 : decode t_X9_tally.2.1 96 = .ok (.ireturn, 1) := by decide +kernel
theorem dX9_tally_97 : decode t_X9_tally.2.1 97 = .ok (.aload_n 0, 1) := by decide +kernel
theorem dX9_tally_98 : decode t_X9_tally.2.1 98 = .ok (.getfield 14, 3) := by decide +kernel
theorem gX9_tally_98 : wm_gf t_X9_tally 98 9 0 := ⟨_, _, _, 14, rfl, by decide, wd_346, dX9_tally_98⟩
theorem dX9_tally_101 : decode t_X9_tally.2.1 101 = .ok (.invokevirtual 365, 3) := by decide +kernel
theorem iX9_tally_101 : wm_iv t_X9_tally t_X5_number 101 := ⟨365, wd_1073, dX9_tally_101⟩
theorem dX9_tally_104 : decode t_X9_tally.2.1 104 = .ok (.ireturn, 1) := by decide +kernel
theorem dX9_tally_105 : decode t_X9_tally.2.1 105 = .ok (.aload_n 0, 1) := by decide +kernel
theorem dX9_tally_106 : decode t_X9_tally.2.1 106 = .ok (.getfield 18, 3) := by decide +kernel
theorem gX9_tally_106 : wm_gf t_X9_tally 106 9 1 := ⟨_, _, _, 18, rfl, by decide, wd_347, dX9_tally_106⟩
theorem dX9_tally_109 : decode t_X9_tally.2.1 109 = .ok (.invokevirtual 365, 3) := by decide +kernel
theorem iX9_tally_109 : wm_iv t_X9_tally t_X5_number 109 := ⟨365, wd_1073, dX9_tally_109⟩
theorem dX9_tally_112 : decode t_X9_tally.2.1 112 = .ok (.ireturn, 1) := by decide +kernel
