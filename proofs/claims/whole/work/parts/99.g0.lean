/-! ===== the constructors: records, rows that a program decides ===== -/
abbrev t_X3_init : wm_T := (yX3_init, cX3_init, 1, none, 1, 20)
theorem wd_197 : Cond.code yX3_init cX3_init 1 none ∈ lw_gd := List.mem_filter.mpr ⟨List.mem_of_getElem? (i := 197) (by decide +kernel), by decide +kernel⟩
theorem wd_196 : Cond.instanceMethod yX3_init ∈ lw_gd := List.mem_filter.mpr ⟨List.mem_of_getElem? (i := 196) (by decide +kernel), by decide +kernel⟩
theorem vX3_init : wc_calI t_X3_init 0 := ⟨⟨wd_197, wd_83, by decide +kernel, by decide +kernel, by decide +kernel⟩, wd_196, rfl, rfl⟩
theorem dX3_init_0 : decode t_X3_init.2.1 0 = .ok (.aload_n 0, 1) := by decide +kernel
theorem dX3_init_1 : decode t_X3_init.2.1 1 = .ok (.invokespecial 3, 3) := by decide +kernel
theorem wd_198 : Cond.methodLink RX3 3 objectInit ∈ lw_gd := List.mem_filter.mpr ⟨List.mem_of_getElem? (i := 198) (by decide +kernel), by decide +kernel⟩
theorem iX3_init_1 : wc_ob t_X3_init 1 := ⟨3, wd_198, dX3_init_1⟩
theorem dX3_init_4 : decode t_X3_init.2.1 4 = .ok (.aload_n 0, 1) := by decide +kernel
theorem dX3_init_5 : decode t_X3_init.2.1 5 = .ok (.bipush 64, 2) := by decide +kernel
theorem dX3_init_7 : decode t_X3_init.2.1 7 = .ok (.newarray .long, 2) := by decide +kernel
theorem wd_203 : Cond.arrayClass .long ∈ lw_gd := List.mem_filter.mpr ⟨List.mem_of_getElem? (i := 203) (by decide +kernel), by decide +kernel⟩
theorem dX3_init_9 : decode t_X3_init.2.1 9 = .ok (.putfield 9, 3) := by decide +kernel
theorem pX3_init_9 : wc_pf t_X3_init 9 3 0 (.array .long) := ⟨_, _, _, 9, rfl, by decide, wd_199, dX3_init_9, by decide +kernel, rfl⟩
theorem dX3_init_12 : decode t_X3_init.2.1 12 = .ok (.return_, 1) := by decide +kernel
abbrev t_X5_init : wm_T := (yX5_init, cX5_init, 3, none, 1, 23)
theorem wd_105 : Cond.code yX5_init cX5_init 3 none ∈ lw_gd := List.mem_filter.mpr ⟨List.mem_of_getElem? (i := 105) (by decide +kernel), by decide +kernel⟩
theorem wd_104 : Cond.instanceMethod yX5_init ∈ lw_gd := List.mem_filter.mpr ⟨List.mem_of_getElem? (i := 104) (by decide +kernel), by decide +kernel⟩
theorem vX5_init : wc_calI t_X5_init 2 := ⟨⟨wd_105, wd_78, by decide +kernel, by decide +kernel, by decide +kernel⟩, wd_104, rfl, rfl⟩
theorem dX5_init_0 : decode t_X5_init.2.1 0 = .ok (.aload_n 0, 1) := by decide +kernel
theorem dX5_init_1 : decode t_X5_init.2.1 1 = .ok (.invokespecial 3, 3) := by decide +kernel
theorem wd_106 : Cond.methodLink RX5 3 objectInit ∈ lw_gd := List.mem_filter.mpr ⟨List.mem_of_getElem? (i := 106) (by decide +kernel), by decide +kernel⟩
theorem iX5_init_1 : wc_ob t_X5_init 1 := ⟨3, wd_106, dX5_init_1⟩
theorem dX5_init_4 : decode t_X5_init.2.1 4 = .ok (.aload_n 0, 1) := by decide +kernel
theorem dX5_init_5 : decode t_X5_init.2.1 5 = .ok (.iload_n 2, 1) := by decide +kernel
theorem dX5_init_6 : decode t_X5_init.2.1 6 = .ok (.putfield 9, 3) := by decide +kernel
theorem pX5_init_6 : wc_pf t_X5_init 6 5 0 .int := ⟨_, _, _, 9, rfl, by decide, wd_112, dX5_init_6, by decide +kernel, rfl⟩
theorem dX5_init_9 : decode t_X5_init.2.1 9 = .ok (.aload_n 0, 1) := by decide +kernel
theorem dX5_init_10 : decode t_X5_init.2.1 10 = .ok (.iload_n 1, 1) := by decide +kernel
theorem dX5_init_11 : decode t_X5_init.2.1 11 = .ok (.iload_n 2, 1) := by decide +kernel
theorem dX5_init_12 : decode t_X5_init.2.1 12 = .ok (.multianewarray 15 2, 4) := by decide +kernel
theorem wd_107 : Cond.classLink RX5 15 "[[I" ∈ lw_gd := List.mem_filter.mpr ⟨List.mem_of_getElem? (i := 107) (by decide +kernel), by decide +kernel⟩
theorem qX5_init_12 : Cond.classLink t_X5_init.1.cls 15 "[[I" ∈ lw_gd := wd_107
theorem dX5_init_16 : decode t_X5_init.2.1 16 = .ok (.putfield 17, 3) := by decide +kernel
theorem pX5_init_16 : wc_pf t_X5_init 16 5 1 (.array (.array .int)) := ⟨_, _, _, 17, rfl, by decide, wd_114, dX5_init_16, by decide +kernel, rfl⟩
theorem dX5_init_19 : decode t_X5_init.2.1 19 = .ok (.aload_n 0, 1) := by decide +kernel
theorem dX5_init_20 : decode t_X5_init.2.1 20 = .ok (.iload_n 1, 1) := by decide +kernel
theorem dX5_init_21 : decode t_X5_init.2.1 21 = .ok (.newarray .int, 2) := by decide +kernel
theorem wd_123 : Cond.arrayClass .int ∈ lw_gd := List.mem_filter.mpr ⟨List.mem_of_getElem? (i := 123) (by decide +kernel), by decide +kernel⟩
theorem dX5_init_23 : decode t_X5_init.2.1 23 = .ok (.putfield 20, 3) := by decide +kernel
theorem pX5_init_23 : wc_pf t_X5_init 23 5 2 (.array .int) := ⟨_, _, _, 20, rfl, by decide, wd_115, dX5_init_23, by decide +kernel, rfl⟩
theorem dX5_init_26 : decode t_X5_init.2.1 26 = .ok (.aload_n 0, 1) := by decide +kernel
theorem dX5_init_27 : decode t_X5_init.2.1 27 = .ok (.getfield 20, 3) := by decide +kernel
theorem gX5_init_27 : wm_gf t_X5_init 27 5 2 := ⟨_, _, _, 20, rfl, by decide, wd_115, dX5_init_27⟩
theorem dX5_init_30 : decode t_X5_init.2.1 30 = .ok (.iconst (-1), 1) := by decide +kernel
theorem dX5_init_31 : decode t_X5_init.2.1 31 = .ok (.invokestatic 24, 3) := by decide +kernel
theorem wd_109 : Cond.methodLink RX5 24 yJ7_fill_53178 ∈ lw_gd := List.mem_filter.mpr ⟨List.mem_of_getElem? (i := 109) (by decide +kernel), by decide +kernel⟩
theorem iX5_init_31 : wm_is t_X5_init t_J7_fill_53178 31 := ⟨24, wd_109, dX5_init_31⟩
theorem dX5_init_34 : decode t_X5_init.2.1 34 = .ok (.return_, 1) := by decide +kernel
abbrev t_X4_init : wm_T := (yX4_init, cX4_init, 1, none, 1, 20)
theorem wd_128 : Cond.code yX4_init cX4_init 1 none ∈ lw_gd := List.mem_filter.mpr ⟨List.mem_of_getElem? (i := 128) (by decide +kernel), by decide +kernel⟩
theorem wd_127 : Cond.instanceMethod yX4_init ∈ lw_gd := List.mem_filter.mpr ⟨List.mem_of_getElem? (i := 127) (by decide +kernel), by decide +kernel⟩
theorem vX4_init : wc_calI t_X4_init 0 := ⟨⟨wd_128, wd_80, by decide +kernel, by decide +kernel, by decide +kernel⟩, wd_127, rfl, rfl⟩
theorem dX4_init_0 : decode t_X4_init.2.1 0 = .ok (.aload_n 0, 1) := by decide +kernel
theorem dX4_init_1 : decode t_X4_init.2.1 1 = .ok (.invokespecial 3, 3) := by decide +kernel
theorem wd_129 : Cond.methodLink RX4 3 objectInit ∈ lw_gd := List.mem_filter.mpr ⟨List.mem_of_getElem? (i := 129) (by decide +kernel), by decide +kernel⟩
theorem iX4_init_1 : wc_ob t_X4_init 1 := ⟨3, wd_129, dX4_init_1⟩
theorem dX4_init_4 : decode t_X4_init.2.1 4 = .ok (.aload_n 0, 1) := by decide +kernel
theorem dX4_init_5 : decode t_X4_init.2.1 5 = .ok (.iconst 0, 1) := by decide +kernel
theorem dX4_init_6 : decode t_X4_init.2.1 6 = .ok (.putfield 9, 3) := by decide +kernel
theorem pX4_init_6 : wc_pf t_X4_init 6 4 0 .int := ⟨_, _, _, 9, rfl, by decide, wd_130, dX4_init_6, by decide +kernel, rfl⟩
theorem dX4_init_9 : decode t_X4_init.2.1 9 = .ok (.aload_n 0, 1) := by decide +kernel
theorem dX4_init_10 : decode t_X4_init.2.1 10 = .ok (.iconst 0, 1) := by decide +kernel
theorem dX4_init_11 : decode t_X4_init.2.1 11 = .ok (.putfield 15, 3) := by decide +kernel
theorem pX4_init_11 : wc_pf t_X4_init 11 4 1 .int := ⟨_, _, _, 15, rfl, by decide, wd_132, dX4_init_11, by decide +kernel, rfl⟩
theorem dX4_init_14 : decode t_X4_init.2.1 14 = .ok (.aload_n 0, 1) := by decide +kernel
theorem dX4_init_15 : decode t_X4_init.2.1 15 = .ok (.bipush 6, 2) := by decide +kernel
theorem dX4_init_17 : decode t_X4_init.2.1 17 = .ok (.newarray .int, 2) := by decide +kernel
theorem dX4_init_19 : decode t_X4_init.2.1 19 = .ok (.putfield 18, 3) := by decide +kernel
theorem pX4_init_19 : wc_pf t_X4_init 19 4 2 (.array .int) := ⟨_, _, _, 18, rfl, by decide, wd_134, dX4_init_19, by decide +kernel, rfl⟩
theorem dX4_init_22 : decode t_X4_init.2.1 22 = .ok (.aload_n 0, 1) := by decide +kernel
theorem dX4_init_23 : decode t_X4_init.2.1 23 = .ok (.bipush 24, 2) := by decide +kernel
theorem dX4_init_25 : decode t_X4_init.2.1 25 = .ok (.newarray .int, 2) := by decide +kernel
theorem dX4_init_27 : decode t_X4_init.2.1 27 = .ok (.putfield 22, 3) := by decide +kernel
theorem pX4_init_27 : wc_pf t_X4_init 27 4 3 (.array .int) := ⟨_, _, _, 22, rfl, by decide, wd_138, dX4_init_27, by decide +kernel, rfl⟩
theorem dX4_init_30 : decode t_X4_init.2.1 30 = .ok (.aload_n 0, 1) := by decide +kernel
theorem dX4_init_31 : decode t_X4_init.2.1 31 = .ok (.bipush 6, 2) := by decide +kernel
theorem dX4_init_33 : decode t_X4_init.2.1 33 = .ok (.newarray .int, 2) := by decide +kernel
theorem dX4_init_35 : decode t_X4_init.2.1 35 = .ok (.putfield 25, 3) := by decide +kernel
theorem pX4_init_35 : wc_pf t_X4_init 35 4 4 (.array .int) := ⟨_, _, _, 25, rfl, by decide, wd_142, dX4_init_35, by decide +kernel, rfl⟩
theorem dX4_init_38 : decode t_X4_init.2.1 38 = .ok (.aload_n 0, 1) := by decide +kernel
theorem dX4_init_39 : decode t_X4_init.2.1 39 = .ok (.bipush 6, 2) := by decide +kernel
theorem dX4_init_41 : decode t_X4_init.2.1 41 = .ok (.newarray .int, 2) := by decide +kernel
theorem dX4_init_43 : decode t_X4_init.2.1 43 = .ok (.putfield 28, 3) := by decide +kernel
theorem pX4_init_43 : wc_pf t_X4_init 43 4 5 (.array .int) := ⟨_, _, _, 28, rfl, by decide, wd_146, dX4_init_43, by decide +kernel, rfl⟩
theorem dX4_init_46 : decode t_X4_init.2.1 46 = .ok (.return_, 1) := by decide +kernel
abbrev t_X6_init : wm_T := (yX6_init, cX6_init, 1, none, 1, 20)
theorem wd_322 : Cond.code yX6_init cX6_init 1 none ∈ lw_gd := List.mem_filter.mpr ⟨List.mem_of_getElem? (i := 322) (by decide +kernel), by decide +kernel⟩
theorem wd_321 : Cond.instanceMethod yX6_init ∈ lw_gd := List.mem_filter.mpr ⟨List.mem_of_getElem? (i := 321) (by decide +kernel), by decide +kernel⟩
theorem vX6_init : wc_calI t_X6_init 0 := ⟨⟨wd_322, wd_87, by decide +kernel, by decide +kernel, by decide +kernel⟩, wd_321, rfl, rfl⟩
theorem dX6_init_0 : decode t_X6_init.2.1 0 = .ok (.aload_n 0, 1) := by decide +kernel
theorem dX6_init_1 : decode t_X6_init.2.1 1 = .ok (.invokespecial 3, 3) := by decide +kernel
theorem wd_323 : Cond.methodLink RX6 3 objectInit ∈ lw_gd := List.mem_filter.mpr ⟨List.mem_of_getElem? (i := 323) (by decide +kernel), by decide +kernel⟩
theorem iX6_init_1 : wc_ob t_X6_init 1 := ⟨3, wd_323, dX6_init_1⟩
theorem dX6_init_4 : decode t_X6_init.2.1 4 = .ok (.aload_n 0, 1) := by decide +kernel
theorem dX6_init_5 : decode t_X6_init.2.1 5 = .ok (.iconst 0, 1) := by decide +kernel
theorem dX6_init_6 : decode t_X6_init.2.1 6 = .ok (.putfield 9, 3) := by decide +kernel
theorem wd_324 : Cond.fieldLink RX6 9 "TurnedStones$Told" "answer" "I" ∈ lw_gd := List.mem_filter.mpr ⟨List.mem_of_getElem? (i := 324) (by decide +kernel), by decide +kernel⟩
theorem pX6_init_6 : wc_pf t_X6_init 6 6 0 .int := ⟨_, _, _, 9, rfl, by decide, wd_324, dX6_init_6, by decide +kernel, rfl⟩
theorem dX6_init_9 : decode t_X6_init.2.1 9 = .ok (.aload_n 0, 1) := by decide +kernel
theorem dX6_init_10 : decode t_X6_init.2.1 10 = .ok (.lconst 0, 1) := by decide +kernel
theorem dX6_init_11 : decode t_X6_init.2.1 11 = .ok (.putfield 15, 3) := by decide +kernel
theorem pX6_init_11 : wc_pf t_X6_init 11 6 1 .long := ⟨_, _, _, 15, rfl, by decide, wd_326, dX6_init_11, by decide +kernel, rfl⟩
theorem dX6_init_14 : decode t_X6_init.2.1 14 = .ok (.aload_n 0, 1) := by decide +kernel
theorem dX6_init_15 : decode t_X6_init.2.1 15 = .ok (.lconst 1, 1) := by decide +kernel
theorem dX6_init_16 : decode t_X6_init.2.1 16 = .ok (.putfield 19, 3) := by decide +kernel
theorem pX6_init_16 : wc_pf t_X6_init 16 6 2 .long := ⟨_, _, _, 19, rfl, by decide, wd_328, dX6_init_16, by decide +kernel, rfl⟩
theorem dX6_init_19 : decode t_X6_init.2.1 19 = .ok (.aload_n 0, 1) := by decide +kernel
theorem dX6_init_20 : decode t_X6_init.2.1 20 = .ok (.iconst 0, 1) := by decide +kernel
theorem dX6_init_21 : decode t_X6_init.2.1 21 = .ok (.putfield 22, 3) := by decide +kernel
theorem pX6_init_21 : wc_pf t_X6_init 21 6 3 .int := ⟨_, _, _, 22, rfl, by decide, wd_330, dX6_init_21, by decide +kernel, rfl⟩
theorem dX6_init_24 : decode t_X6_init.2.1 24 = .ok (.aload_n 0, 1) := by decide +kernel
theorem dX6_init_25 : decode t_X6_init.2.1 25 = .ok (.bipush 6, 2) := by decide +kernel
theorem dX6_init_27 : decode t_X6_init.2.1 27 = .ok (.newarray .int, 2) := by decide +kernel
theorem dX6_init_29 : decode t_X6_init.2.1 29 = .ok (.putfield 25, 3) := by decide +kernel
theorem pX6_init_29 : wc_pf t_X6_init 29 6 4 (.array .int) := ⟨_, _, _, 25, rfl, by decide, wd_332, dX6_init_29, by decide +kernel, rfl⟩
theorem dX6_init_32 : decode t_X6_init.2.1 32 = .ok (.return_, 1) := by decide +kernel
abbrev t_X7_init : wm_T := (yX7_init, cX7_init, 3, none, 1, 20)
theorem wd_166 : Cond.code yX7_init cX7_init 3 none ∈ lw_gd := List.mem_filter.mpr ⟨List.mem_of_getElem? (i := 166) (by decide +kernel), by decide +kernel⟩
theorem wd_165 : Cond.instanceMethod yX7_init ∈ lw_gd := List.mem_filter.mpr ⟨List.mem_of_getElem? (i := 165) (by decide +kernel), by decide +kernel⟩
theorem vX7_init : wc_calI t_X7_init 2 := ⟨⟨wd_166, wd_81, by decide +kernel, by decide +kernel, by decide +kernel⟩, wd_165, rfl, rfl⟩
theorem dX7_init_0 : decode t_X7_init.2.1 0 = .ok (.aload_n 0, 1) := by decide +kernel
theorem dX7_init_1 : decode t_X7_init.2.1 1 = .ok (.invokespecial 3, 3) := by decide +kernel
theorem wd_167 : Cond.methodLink RX7 3 objectInit ∈ lw_gd := List.mem_filter.mpr ⟨List.mem_of_getElem? (i := 167) (by decide +kernel), by decide +kernel⟩
theorem iX7_init_1 : wc_ob t_X7_init 1 := ⟨3, wd_167, dX7_init_1⟩
theorem dX7_init_4 : decode t_X7_init.2.1 4 = .ok (.aload_n 0, 1) := by decide +kernel
theorem dX7_init_5 : decode t_X7_init.2.1 5 = .ok (.iconst 0, 1) := by decide +kernel
theorem dX7_init_6 : decode t_X7_init.2.1 6 = .ok (.putfield 9, 3) := by decide +kernel
theorem pX7_init_6 : wc_pf t_X7_init 6 7 2 .int := ⟨_, _, _, 9, rfl, by decide, wd_170, dX7_init_6, by decide +kernel, rfl⟩
theorem dX7_init_9 : decode t_X7_init.2.1 9 = .ok (.aload_n 0, 1) := by decide +kernel
theorem dX7_init_10 : decode t_X7_init.2.1 10 = .ok (.iconst 0, 1) := by decide +kernel
theorem dX7_init_11 : decode t_X7_init.2.1 11 = .ok (.putfield 15, 3) := by decide +kernel
theorem pX7_init_11 : wc_pf t_X7_init 11 7 3 .int := ⟨_, _, _, 15, rfl, by decide, wd_171, dX7_init_11, by decide +kernel, rfl⟩
theorem dX7_init_14 : decode t_X7_init.2.1 14 = .ok (.aload_n 0, 1) := by decide +kernel
theorem dX7_init_15 : decode t_X7_init.2.1 15 = .ok (.iconst 0, 1) := by decide +kernel
theorem dX7_init_16 : decode t_X7_init.2.1 16 = .ok (.putfield 18, 3) := by decide +kernel
theorem pX7_init_16 : wc_pf t_X7_init 16 7 4 .int := ⟨_, _, _, 18, rfl, by decide, wd_172, dX7_init_16, by decide +kernel, rfl⟩
theorem dX7_init_19 : decode t_X7_init.2.1 19 = .ok (.aload_n 0, 1) := by decide +kernel
theorem dX7_init_20 : decode t_X7_init.2.1 20 = .ok (.aload_n 1, 1) := by decide +kernel
theorem dX7_init_21 : decode t_X7_init.2.1 21 = .ok (.putfield 21, 3) := by decide +kernel
theorem pX7_init_21 : wc_pf t_X7_init 21 7 0 (.object "TurnedStones$Table") := ⟨_, _, _, 21, rfl, by decide, wd_168, dX7_init_21, by decide +kernel, rfl⟩
theorem dX7_init_24 : decode t_X7_init.2.1 24 = .ok (.aload_n 0, 1) := by decide +kernel
theorem dX7_init_25 : decode t_X7_init.2.1 25 = .ok (.aload_n 2, 1) := by decide +kernel
theorem dX7_init_26 : decode t_X7_init.2.1 26 = .ok (.putfield 25, 3) := by decide +kernel
theorem pX7_init_26 : wc_pf t_X7_init 26 7 1 (.object "TurnedStones$Stones") := ⟨_, _, _, 25, rfl, by decide, wd_169, dX7_init_26, by decide +kernel, rfl⟩
theorem dX7_init_29 : decode t_X7_init.2.1 29 = .ok (.return_, 1) := by decide +kernel
abbrev t_X0_init : wm_T := (yX0_init, cX0_init, 3, none, 2, 45)
theorem wd_188 : Cond.code yX0_init cX0_init 3 none ∈ lw_gd := List.mem_filter.mpr ⟨List.mem_of_getElem? (i := 188) (by decide +kernel), by decide +kernel⟩
theorem wd_187 : Cond.instanceMethod yX0_init ∈ lw_gd := List.mem_filter.mpr ⟨List.mem_of_getElem? (i := 187) (by decide +kernel), by decide +kernel⟩
theorem vX0_init : wc_calI t_X0_init 1 := ⟨⟨wd_188, wd_82, by decide +kernel, by decide +kernel, by decide +kernel⟩, wd_187, rfl, rfl⟩
theorem dX0_init_0 : decode t_X0_init.2.1 0 = .ok (.aload_n 0, 1) := by decide +kernel
theorem dX0_init_1 : decode t_X0_init.2.1 1 = .ok (.invokespecial 3, 3) := by decide +kernel
theorem wd_189 : Cond.methodLink RX0 3 objectInit ∈ lw_gd := List.mem_filter.mpr ⟨List.mem_of_getElem? (i := 189) (by decide +kernel), by decide +kernel⟩
theorem iX0_init_1 : wc_ob t_X0_init 1 := ⟨3, wd_189, dX0_init_1⟩
theorem dX0_init_4 : decode t_X0_init.2.1 4 = .ok (.aload_n 0, 1) := by decide +kernel
theorem dX0_init_5 : decode t_X0_init.2.1 5 = .ok (.new 9, 3) := by decide +kernel
theorem wd_190 : Cond.classLink RX0 9 RX5 ∈ lw_gd := List.mem_filter.mpr ⟨List.mem_of_getElem? (i := 190) (by decide +kernel), by decide +kernel⟩
theorem wd_102 : Cond.instantiable RX5 3 ∈ lw_gd := List.mem_filter.mpr ⟨List.mem_of_getElem? (i := 102) (by decide +kernel), by decide +kernel⟩
theorem nX0_init_5 : wc_nw t_X0_init 5 5 3 [.int 0, .null, .null] := ⟨_, _, 9, tyX5, rfl, wd_190, wd_102, wd_78, tyX5_ok, by decide +kernel, dX0_init_5⟩
theorem dX0_init_8 : decode t_X0_init.2.1 8 = .ok (.dup, 1) := by decide +kernel
theorem dX0_init_9 : decode t_X0_init.2.1 9 = .ok (.iconst 4, 1) := by decide +kernel
theorem dX0_init_10 : decode t_X0_init.2.1 10 = .ok (.iconst 3, 1) := by decide +kernel
theorem dX0_init_11 : decode t_X0_init.2.1 11 = .ok (.invokespecial 11, 3) := by decide +kernel
theorem wd_191 : Cond.methodLink RX0 11 yX5_init ∈ lw_gd := List.mem_filter.mpr ⟨List.mem_of_getElem? (i := 191) (by decide +kernel), by decide +kernel⟩
theorem iX0_init_11 : wc_ii t_X0_init t_X5_init 11 := ⟨11, wd_191, dX0_init_11⟩
theorem dX0_init_14 : decode t_X0_init.2.1 14 = .ok (.putfield 14, 3) := by decide +kernel
theorem pX0_init_14 : wc_pf t_X0_init 14 0 0 (.object "TurnedStones$Table") := ⟨_, _, _, 14, rfl, by decide, wd_204, dX0_init_14, by decide +kernel, rfl⟩
theorem dX0_init_17 : decode t_X0_init.2.1 17 = .ok (.aload_n 0, 1) := by decide +kernel
theorem dX0_init_18 : decode t_X0_init.2.1 18 = .ok (.iconst 4, 1) := by decide +kernel
theorem dX0_init_19 : decode t_X0_init.2.1 19 = .ok (.anewarray 20, 3) := by decide +kernel
theorem wd_192 : Cond.classLink RX0 20 "TurnedStones$StateSet" ∈ lw_gd := List.mem_filter.mpr ⟨List.mem_of_getElem? (i := 192) (by decide +kernel), by decide +kernel⟩
theorem qX0_init_19 : Cond.classLink t_X0_init.1.cls 20 "TurnedStones$StateSet" ∈ lw_gd := wd_192
theorem dX0_init_22 : decode t_X0_init.2.1 22 = .ok (.putfield 22, 3) := by decide +kernel
theorem pX0_init_22 : wc_pf t_X0_init 22 0 1 (.array (.object "TurnedStones$StateSet")) := ⟨_, _, _, 22, rfl, by decide, wd_206, dX0_init_22, by decide +kernel, rfl⟩
theorem dX0_init_25 : decode t_X0_init.2.1 25 = .ok (.aload_n 0, 1) := by decide +kernel
theorem dX0_init_26 : decode t_X0_init.2.1 26 = .ok (.iconst 0, 1) := by decide +kernel
theorem dX0_init_27 : decode t_X0_init.2.1 27 = .ok (.putfield 26, 3) := by decide +kernel
theorem pX0_init_27 : wc_pf t_X0_init 27 0 2 .int := ⟨_, _, _, 26, rfl, by decide, wd_209, dX0_init_27, by decide +kernel, rfl⟩
theorem dX0_init_30 : decode t_X0_init.2.1 30 = .ok (.aload_n 0, 1) := by decide +kernel
theorem dX0_init_31 : decode t_X0_init.2.1 31 = .ok (.bipush 6, 2) := by decide +kernel
theorem dX0_init_33 : decode t_X0_init.2.1 33 = .ok (.newarray .int, 2) := by decide +kernel
theorem dX0_init_35 : decode t_X0_init.2.1 35 = .ok (.putfield 30, 3) := by decide +kernel
theorem pX0_init_35 : wc_pf t_X0_init 35 0 4 (.array .int) := ⟨_, _, _, 30, rfl, by decide, wd_212, dX0_init_35, by decide +kernel, rfl⟩
theorem dX0_init_38 : decode t_X0_init.2.1 38 = .ok (.aload_n 0, 1) := by decide +kernel
theorem dX0_init_39 : decode t_X0_init.2.1 39 = .ok (.aload_n 1, 1) := by decide +kernel
theorem dX0_init_40 : decode t_X0_init.2.1 40 = .ok (.putfield 34, 3) := by decide +kernel
theorem pX0_init_40 : wc_pf t_X0_init 40 0 3 (.object "TurnedStones$Stones") := ⟨_, _, _, 34, rfl, by decide, wd_211, dX0_init_40, by decide +kernel, rfl⟩
theorem dX0_init_43 : decode t_X0_init.2.1 43 = .ok (.iconst 0, 1) := by decide +kernel
theorem dX0_init_44 : decode t_X0_init.2.1 44 = .ok (.istore_n 2, 1) := by decide +kernel
theorem dX0_init_45 : decode t_X0_init.2.1 45 = .ok (.iload_n 2, 1) := by decide +kernel
theorem dX0_init_46 : decode t_X0_init.2.1 46 = .ok (.iconst 4, 1) := by decide +kernel
theorem dX0_init_47 : decode t_X0_init.2.1 47 = .ok (.if_icmp .ge 22, 3) := by decide +kernel
theorem dX0_init_50 : decode t_X0_init.2.1 50 = .ok (.aload_n 0, 1) := by decide +kernel
theorem dX0_init_51 : decode t_X0_init.2.1 51 = .ok (.getfield 22, 3) := by decide +kernel
theorem gX0_init_51 : wm_gf t_X0_init 51 0 1 := ⟨_, _, _, 22, rfl, by decide, wd_206, dX0_init_51⟩
theorem dX0_init_54 : decode t_X0_init.2.1 54 = .ok (.iload_n 2, 1) := by decide +kernel
theorem dX0_init_55 : decode t_X0_init.2.1 55 = .ok (.new 20, 3) := by decide +kernel
theorem wd_194 : Cond.instantiable RX3 1 ∈ lw_gd := List.mem_filter.mpr ⟨List.mem_of_getElem? (i := 194) (by decide +kernel), by decide +kernel⟩
theorem nX0_init_55 : wc_nw t_X0_init 55 3 1 [.null] := ⟨_, _, 20, tyX3, rfl, wd_192, wd_194, wd_83, tyX3_ok, by decide +kernel, dX0_init_55⟩
theorem dX0_init_58 : decode t_X0_init.2.1 58 = .ok (.dup, 1) := by decide +kernel
theorem dX0_init_59 : decode t_X0_init.2.1 59 = .ok (.invokespecial 38, 3) := by decide +kernel
theorem iX0_init_59 : wc_in t_X0_init t_X3_init 59 := ⟨38, by decide, dX0_init_59⟩
theorem dX0_init_62 : decode t_X0_init.2.1 62 = .ok (.aastore, 1) := by decide +kernel
theorem dX0_init_63 : decode t_X0_init.2.1 63 = .ok (.iinc 2 1, 3) := by decide +kernel
theorem dX0_init_66 : decode t_X0_init.2.1 66 = .ok (.goto (-21), 3) := by decide +kernel
theorem dX0_init_69 : decode t_X0_init.2.1 69 = .ok (.return_, 1) := by decide +kernel
abbrev t_X8_init : wm_T := (yX8_init, cX8_init, 3, none, 2, 40)
theorem wd_228 : Cond.code yX8_init cX8_init 3 none ∈ lw_gd := List.mem_filter.mpr ⟨List.mem_of_getElem? (i := 228) (by decide +kernel), by decide +kernel⟩
theorem wd_227 : Cond.instanceMethod yX8_init ∈ lw_gd := List.mem_filter.mpr ⟨List.mem_of_getElem? (i := 227) (by decide +kernel), by decide +kernel⟩
theorem vX8_init : wc_calI t_X8_init 2 := ⟨⟨wd_228, wd_84, by decide +kernel, by decide +kernel, by decide +kernel⟩, wd_227, rfl, rfl⟩
theorem dX8_init_0 : decode t_X8_init.2.1 0 = .ok (.aload_n 0, 1) := by decide +kernel
theorem dX8_init_1 : decode t_X8_init.2.1 1 = .ok (.invokespecial 3, 3) := by decide +kernel
theorem wd_229 : Cond.methodLink RX8 3 objectInit ∈ lw_gd := List.mem_filter.mpr ⟨List.mem_of_getElem? (i := 229) (by decide +kernel), by decide +kernel⟩
theorem iX8_init_1 : wc_ob t_X8_init 1 := ⟨3, wd_229, dX8_init_1⟩
theorem dX8_init_4 : decode t_X8_init.2.1 4 = .ok (.aload_n 0, 1) := by decide +kernel
theorem dX8_init_5 : decode t_X8_init.2.1 5 = .ok (.iconst 0, 1) := by decide +kernel
theorem dX8_init_6 : decode t_X8_init.2.1 6 = .ok (.putfield 9, 3) := by decide +kernel
theorem pX8_init_6 : wc_pf t_X8_init 6 8 0 .int := ⟨_, _, _, 9, rfl, by decide, wd_232, dX8_init_6, by decide +kernel, rfl⟩
theorem dX8_init_9 : decode t_X8_init.2.1 9 = .ok (.aload_n 0, 1) := by decide +kernel
theorem dX8_init_10 : decode t_X8_init.2.1 10 = .ok (.bipush (-9), 2) := by decide +kernel
theorem dX8_init_12 : decode t_X8_init.2.1 12 = .ok (.putfield 15, 3) := by decide +kernel
theorem pX8_init_12 : wc_pf t_X8_init 12 8 1 .int := ⟨_, _, _, 15, rfl, by decide, wd_234, dX8_init_12, by decide +kernel, rfl⟩
theorem dX8_init_15 : decode t_X8_init.2.1 15 = .ok (.aload_n 0, 1) := by decide +kernel
theorem dX8_init_16 : decode t_X8_init.2.1 16 = .ok (.new 18, 3) := by decide +kernel
theorem wd_230 : Cond.classLink RX8 18 RX3 ∈ lw_gd := List.mem_filter.mpr ⟨List.mem_of_getElem? (i := 230) (by decide +kernel), by decide +kernel⟩
theorem nX8_init_16 : wc_nw t_X8_init 16 3 1 [.null] := ⟨_, _, 18, tyX3, rfl, wd_230, wd_194, wd_83, tyX3_ok, by decide +kernel, dX8_init_16⟩
theorem dX8_init_19 : decode t_X8_init.2.1 19 = .ok (.dup, 1) := by decide +kernel
theorem dX8_init_20 : decode t_X8_init.2.1 20 = .ok (.invokespecial 20, 3) := by decide +kernel
theorem iX8_init_20 : wc_in t_X8_init t_X3_init 20 := ⟨20, by decide, dX8_init_20⟩
theorem dX8_init_23 : decode t_X8_init.2.1 23 = .ok (.putfield 21, 3) := by decide +kernel
theorem pX8_init_23 : wc_pf t_X8_init 23 8 4 (.object "TurnedStones$StateSet") := ⟨_, _, _, 21, rfl, by decide, wd_238, dX8_init_23, by decide +kernel, rfl⟩
theorem dX8_init_26 : decode t_X8_init.2.1 26 = .ok (.aload_n 0, 1) := by decide +kernel
theorem dX8_init_27 : decode t_X8_init.2.1 27 = .ok (.new 18, 3) := by decide +kernel
theorem nX8_init_27 : wc_nw t_X8_init 27 3 1 [.null] := ⟨_, _, 18, tyX3, rfl, wd_230, wd_194, wd_83, tyX3_ok, by decide +kernel, dX8_init_27⟩
theorem dX8_init_30 : decode t_X8_init.2.1 30 = .ok (.dup, 1) := by decide +kernel
theorem dX8_init_31 : decode t_X8_init.2.1 31 = .ok (.invokespecial 20, 3) := by decide +kernel
theorem iX8_init_31 : wc_in t_X8_init t_X3_init 31 := ⟨20, by decide, dX8_init_31⟩
theorem dX8_init_34 : decode t_X8_init.2.1 34 = .ok (.putfield 25, 3) := by decide +kernel
theorem pX8_init_34 : wc_pf t_X8_init 34 8 5 (.object "TurnedStones$StateSet") := ⟨_, _, _, 25, rfl, by decide, wd_239, dX8_init_34, by decide +kernel, rfl⟩
theorem dX8_init_37 : decode t_X8_init.2.1 37 = .ok (.aload_n 0, 1) := by decide +kernel
theorem dX8_init_38 : decode t_X8_init.2.1 38 = .ok (.new 18, 3) := by decide +kernel
theorem nX8_init_38 : wc_nw t_X8_init 38 3 1 [.null] := ⟨_, _, 18, tyX3, rfl, wd_230, wd_194, wd_83, tyX3_ok, by decide +kernel, dX8_init_38⟩
theorem dX8_init_41 : decode t_X8_init.2.1 41 = .ok (.dup, 1) := by decide +kernel
theorem dX8_init_42 : decode t_X8_init.2.1 42 = .ok (.invokespecial 20, 3) := by decide +kernel
theorem iX8_init_42 : wc_in t_X8_init t_X3_init 42 := ⟨20, by decide, dX8_init_42⟩
theorem dX8_init_45 : decode t_X8_init.2.1 45 = .ok (.putfield 28, 3) := by decide +kernel
theorem pX8_init_45 : wc_pf t_X8_init 45 8 6 (.object "TurnedStones$StateSet") := ⟨_, _, _, 28, rfl, by decide, wd_240, dX8_init_45, by decide +kernel, rfl⟩
theorem dX8_init_48 : decode t_X8_init.2.1 48 = .ok (.aload_n 0, 1) := by decide +kernel
theorem dX8_init_49 : decode t_X8_init.2.1 49 = .ok (.bipush 6, 2) := by decide +kernel
theorem dX8_init_51 : decode t_X8_init.2.1 51 = .ok (.newarray .int, 2) := by decide +kernel
theorem dX8_init_53 : decode t_X8_init.2.1 53 = .ok (.putfield 31, 3) := by decide +kernel
theorem pX8_init_53 : wc_pf t_X8_init 53 8 7 (.array .int) := ⟨_, _, _, 31, rfl, by decide, wd_241, dX8_init_53, by decide +kernel, rfl⟩
theorem dX8_init_56 : decode t_X8_init.2.1 56 = .ok (.aload_n 0, 1) := by decide +kernel
theorem dX8_init_57 : decode t_X8_init.2.1 57 = .ok (.aload_n 1, 1) := by decide +kernel
theorem dX8_init_58 : decode t_X8_init.2.1 58 = .ok (.putfield 35, 3) := by decide +kernel
theorem pX8_init_58 : wc_pf t_X8_init 58 8 2 (.object "TurnedStones$Stones") := ⟨_, _, _, 35, rfl, by decide, wd_236, dX8_init_58, by decide +kernel, rfl⟩
theorem dX8_init_61 : decode t_X8_init.2.1 61 = .ok (.aload_n 0, 1) := by decide +kernel
theorem dX8_init_62 : decode t_X8_init.2.1 62 = .ok (.aload_n 2, 1) := by decide +kernel
theorem dX8_init_63 : decode t_X8_init.2.1 63 = .ok (.putfield 39, 3) := by decide +kernel
theorem pX8_init_63 : wc_pf t_X8_init 63 8 3 (.object "TurnedStones$LawBook") := ⟨_, _, _, 39, rfl, by decide, wd_237, dX8_init_63, by decide +kernel, rfl⟩
theorem dX8_init_66 : decode t_X8_init.2.1 66 = .ok (.return_, 1) := by decide +kernel
abbrev t_X2_init : wm_T := (yX2_init, cX2_init, 2, none, 2, 45)
theorem wd_263 : Cond.code yX2_init cX2_init 2 none ∈ lw_gd := List.mem_filter.mpr ⟨List.mem_of_getElem? (i := 263) (by decide +kernel), by decide +kernel⟩
theorem wd_262 : Cond.instanceMethod yX2_init ∈ lw_gd := List.mem_filter.mpr ⟨List.mem_of_getElem? (i := 262) (by decide +kernel), by decide +kernel⟩
theorem vX2_init : wc_calI t_X2_init 1 := ⟨⟨wd_263, wd_85, by decide +kernel, by decide +kernel, by decide +kernel⟩, wd_262, rfl, rfl⟩
theorem dX2_init_0 : decode t_X2_init.2.1 0 = .ok (.aload_n 0, 1) := by decide +kernel
theorem dX2_init_1 : decode t_X2_init.2.1 1 = .ok (.invokespecial 3, 3) := by decide +kernel
theorem wd_264 : Cond.methodLink RX2 3 objectInit ∈ lw_gd := List.mem_filter.mpr ⟨List.mem_of_getElem? (i := 264) (by decide +kernel), by decide +kernel⟩
theorem iX2_init_1 : wc_ob t_X2_init 1 := ⟨3, wd_264, dX2_init_1⟩
theorem dX2_init_4 : decode t_X2_init.2.1 4 = .ok (.aload_n 0, 1) := by decide +kernel
theorem dX2_init_5 : decode t_X2_init.2.1 5 = .ok (.iconst 0, 1) := by decide +kernel
theorem dX2_init_6 : decode t_X2_init.2.1 6 = .ok (.putfield 9, 3) := by decide +kernel
theorem pX2_init_6 : wc_pf t_X2_init 6 2 0 .int := ⟨_, _, _, 9, rfl, by decide, wd_267, dX2_init_6, by decide +kernel, rfl⟩
theorem dX2_init_9 : decode t_X2_init.2.1 9 = .ok (.aload_n 0, 1) := by decide +kernel
theorem dX2_init_10 : decode t_X2_init.2.1 10 = .ok (.iconst 4, 1) := by decide +kernel
theorem dX2_init_11 : decode t_X2_init.2.1 11 = .ok (.newarray .int, 2) := by decide +kernel
theorem dX2_init_13 : decode t_X2_init.2.1 13 = .ok (.putfield 15, 3) := by decide +kernel
theorem pX2_init_13 : wc_pf t_X2_init 13 2 2 (.array .int) := ⟨_, _, _, 15, rfl, by decide, wd_270, dX2_init_13, by decide +kernel, rfl⟩
theorem dX2_init_16 : decode t_X2_init.2.1 16 = .ok (.aload_n 0, 1) := by decide +kernel
theorem dX2_init_17 : decode t_X2_init.2.1 17 = .ok (.iconst 4, 1) := by decide +kernel
theorem dX2_init_18 : decode t_X2_init.2.1 18 = .ok (.newarray .int, 2) := by decide +kernel
theorem dX2_init_20 : decode t_X2_init.2.1 20 = .ok (.putfield 19, 3) := by decide +kernel
theorem pX2_init_20 : wc_pf t_X2_init 20 2 3 (.array .int) := ⟨_, _, _, 19, rfl, by decide, wd_271, dX2_init_20, by decide +kernel, rfl⟩
theorem dX2_init_23 : decode t_X2_init.2.1 23 = .ok (.aload_n 0, 1) := by decide +kernel
theorem dX2_init_24 : decode t_X2_init.2.1 24 = .ok (.iconst 4, 1) := by decide +kernel
theorem dX2_init_25 : decode t_X2_init.2.1 25 = .ok (.newarray .int, 2) := by decide +kernel
theorem dX2_init_27 : decode t_X2_init.2.1 27 = .ok (.putfield 22, 3) := by decide +kernel
theorem pX2_init_27 : wc_pf t_X2_init 27 2 4 (.array .int) := ⟨_, _, _, 22, rfl, by decide, wd_272, dX2_init_27, by decide +kernel, rfl⟩
theorem dX2_init_30 : decode t_X2_init.2.1 30 = .ok (.aload_n 0, 1) := by decide +kernel
theorem dX2_init_31 : decode t_X2_init.2.1 31 = .ok (.new 25, 3) := by decide +kernel
theorem wd_265 : Cond.classLink RX2 25 RX5 ∈ lw_gd := List.mem_filter.mpr ⟨List.mem_of_getElem? (i := 265) (by decide +kernel), by decide +kernel⟩
theorem nX2_init_31 : wc_nw t_X2_init 31 5 3 [.int 0, .null, .null] := ⟨_, _, 25, tyX5, rfl, wd_265, wd_102, wd_78, tyX5_ok, by decide +kernel, dX2_init_31⟩
theorem dX2_init_34 : decode t_X2_init.2.1 34 = .ok (.dup, 1) := by decide +kernel
theorem dX2_init_35 : decode t_X2_init.2.1 35 = .ok (.iconst 4, 1) := by decide +kernel
theorem dX2_init_36 : decode t_X2_init.2.1 36 = .ok (.iconst 3, 1) := by decide +kernel
theorem dX2_init_37 : decode t_X2_init.2.1 37 = .ok (.invokespecial 27, 3) := by decide +kernel
theorem wd_266 : Cond.methodLink RX2 27 yX5_init ∈ lw_gd := List.mem_filter.mpr ⟨List.mem_of_getElem? (i := 266) (by decide +kernel), by decide +kernel⟩
theorem iX2_init_37 : wc_ii t_X2_init t_X5_init 37 := ⟨27, wd_266, dX2_init_37⟩
theorem dX2_init_40 : decode t_X2_init.2.1 40 = .ok (.putfield 30, 3) := by decide +kernel
theorem pX2_init_40 : wc_pf t_X2_init 40 2 5 (.object "TurnedStones$Table") := ⟨_, _, _, 30, rfl, by decide, wd_273, dX2_init_40, by decide +kernel, rfl⟩
theorem dX2_init_43 : decode t_X2_init.2.1 43 = .ok (.aload_n 0, 1) := by decide +kernel
theorem dX2_init_44 : decode t_X2_init.2.1 44 = .ok (.aload_n 1, 1) := by decide +kernel
theorem dX2_init_45 : decode t_X2_init.2.1 45 = .ok (.putfield 34, 3) := by decide +kernel
theorem pX2_init_45 : wc_pf t_X2_init 45 2 1 (.object "TurnedStones$Stones") := ⟨_, _, _, 34, rfl, by decide, wd_269, dX2_init_45, by decide +kernel, rfl⟩
theorem dX2_init_48 : decode t_X2_init.2.1 48 = .ok (.return_, 1) := by decide +kernel
abbrev t_X1_init : wm_T := (yX1_init, cX1_init, 4, none, 2, 40)
theorem wd_291 : Cond.code yX1_init cX1_init 4 none ∈ lw_gd := List.mem_filter.mpr ⟨List.mem_of_getElem? (i := 291) (by decide +kernel), by decide +kernel⟩
theorem wd_290 : Cond.instanceMethod yX1_init ∈ lw_gd := List.mem_filter.mpr ⟨List.mem_of_getElem? (i := 290) (by decide +kernel), by decide +kernel⟩
theorem vX1_init : wc_calI t_X1_init 2 := ⟨⟨wd_291, wd_86, by decide +kernel, by decide +kernel, by decide +kernel⟩, wd_290, rfl, rfl⟩
theorem dX1_init_0 : decode t_X1_init.2.1 0 = .ok (.aload_n 0, 1) := by decide +kernel
theorem dX1_init_1 : decode t_X1_init.2.1 1 = .ok (.invokespecial 3, 3) := by decide +kernel
theorem wd_292 : Cond.methodLink RX1 3 objectInit ∈ lw_gd := List.mem_filter.mpr ⟨List.mem_of_getElem? (i := 292) (by decide +kernel), by decide +kernel⟩
theorem iX1_init_1 : wc_ob t_X1_init 1 := ⟨3, wd_292, dX1_init_1⟩
theorem dX1_init_4 : decode t_X1_init.2.1 4 = .ok (.aload_n 0, 1) := by decide +kernel
theorem dX1_init_5 : decode t_X1_init.2.1 5 = .ok (.bipush 10, 2) := by decide +kernel
theorem dX1_init_7 : decode t_X1_init.2.1 7 = .ok (.anewarray 9, 3) := by decide +kernel
theorem wd_293 : Cond.classLink RX1 9 "TurnedStones$StateSet" ∈ lw_gd := List.mem_filter.mpr ⟨List.mem_of_getElem? (i := 293) (by decide +kernel), by decide +kernel⟩
theorem qX1_init_7 : Cond.classLink t_X1_init.1.cls 9 "TurnedStones$StateSet" ∈ lw_gd := wd_293
theorem dX1_init_10 : decode t_X1_init.2.1 10 = .ok (.putfield 11, 3) := by decide +kernel
theorem pX1_init_10 : wc_pf t_X1_init 10 1 0 (.array (.object "TurnedStones$StateSet")) := ⟨_, _, _, 11, rfl, by decide, wd_295, dX1_init_10, by decide +kernel, rfl⟩
theorem dX1_init_13 : decode t_X1_init.2.1 13 = .ok (.aload_n 0, 1) := by decide +kernel
theorem dX1_init_14 : decode t_X1_init.2.1 14 = .ok (.new 9, 3) := by decide +kernel
theorem nX1_init_14 : wc_nw t_X1_init 14 3 1 [.null] := ⟨_, _, 9, tyX3, rfl, wd_293, wd_194, wd_83, tyX3_ok, by decide +kernel, dX1_init_14⟩
theorem dX1_init_17 : decode t_X1_init.2.1 17 = .ok (.dup, 1) := by decide +kernel
theorem dX1_init_18 : decode t_X1_init.2.1 18 = .ok (.invokespecial 17, 3) := by decide +kernel
theorem iX1_init_18 : wc_in t_X1_init t_X3_init 18 := ⟨17, by decide, dX1_init_18⟩
theorem dX1_init_21 : decode t_X1_init.2.1 21 = .ok (.putfield 18, 3) := by decide +kernel
theorem pX1_init_21 : wc_pf t_X1_init 21 1 3 (.object "TurnedStones$StateSet") := ⟨_, _, _, 18, rfl, by decide, wd_299, dX1_init_21, by decide +kernel, rfl⟩
theorem dX1_init_24 : decode t_X1_init.2.1 24 = .ok (.aload_n 0, 1) := by decide +kernel
theorem dX1_init_25 : decode t_X1_init.2.1 25 = .ok (.bipush 6, 2) := by decide +kernel
theorem dX1_init_27 : decode t_X1_init.2.1 27 = .ok (.newarray .int, 2) := by decide +kernel
theorem dX1_init_29 : decode t_X1_init.2.1 29 = .ok (.putfield 22, 3) := by decide +kernel
theorem pX1_init_29 : wc_pf t_X1_init 29 1 4 (.array .int) := ⟨_, _, _, 22, rfl, by decide, wd_300, dX1_init_29, by decide +kernel, rfl⟩
theorem dX1_init_32 : decode t_X1_init.2.1 32 = .ok (.aload_n 0, 1) := by decide +kernel
theorem dX1_init_33 : decode t_X1_init.2.1 33 = .ok (.sipush 4096, 3) := by decide +kernel
theorem dX1_init_36 : decode t_X1_init.2.1 36 = .ok (.newarray .int, 2) := by decide +kernel
theorem dX1_init_38 : decode t_X1_init.2.1 38 = .ok (.putfield 26, 3) := by decide +kernel
theorem pX1_init_38 : wc_pf t_X1_init 38 1 5 (.array .int) := ⟨_, _, _, 26, rfl, by decide, wd_301, dX1_init_38, by decide +kernel, rfl⟩
theorem dX1_init_41 : decode t_X1_init.2.1 41 = .ok (.aload_n 0, 1) := by decide +kernel
theorem dX1_init_42 : decode t_X1_init.2.1 42 = .ok (.sipush 4096, 3) := by decide +kernel
theorem dX1_init_45 : decode t_X1_init.2.1 45 = .ok (.newarray .int, 2) := by decide +kernel
theorem dX1_init_47 : decode t_X1_init.2.1 47 = .ok (.putfield 29, 3) := by decide +kernel
theorem pX1_init_47 : wc_pf t_X1_init 47 1 6 (.array .int) := ⟨_, _, _, 29, rfl, by decide, wd_302, dX1_init_47, by decide +kernel, rfl⟩
theorem dX1_init_50 : decode t_X1_init.2.1 50 = .ok (.aload_n 0, 1) := by decide +kernel
theorem dX1_init_51 : decode t_X1_init.2.1 51 = .ok (.aload_n 1, 1) := by decide +kernel
theorem dX1_init_52 : decode t_X1_init.2.1 52 = .ok (.putfield 32, 3) := by decide +kernel
theorem pX1_init_52 : wc_pf t_X1_init 52 1 1 (.object "TurnedStones$Stones") := ⟨_, _, _, 32, rfl, by decide, wd_297, dX1_init_52, by decide +kernel, rfl⟩
theorem dX1_init_55 : decode t_X1_init.2.1 55 = .ok (.aload_n 0, 1) := by decide +kernel
theorem dX1_init_56 : decode t_X1_init.2.1 56 = .ok (.aload_n 2, 1) := by decide +kernel
theorem dX1_init_57 : decode t_X1_init.2.1 57 = .ok (.putfield 36, 3) := by decide +kernel
theorem pX1_init_57 : wc_pf t_X1_init 57 1 2 (.object "TurnedStones$Records") := ⟨_, _, _, 36, rfl, by decide, wd_298, dX1_init_57, by decide +kernel, rfl⟩
theorem dX1_init_60 : decode t_X1_init.2.1 60 = .ok (.iconst 0, 1) := by decide +kernel
theorem dX1_init_61 : decode t_X1_init.2.1 61 = .ok (.istore_n 3, 1) := by decide +kernel
theorem dX1_init_62 : decode t_X1_init.2.1 62 = .ok (.iload_n 3, 1) := by decide +kernel
theorem dX1_init_63 : decode t_X1_init.2.1 63 = .ok (.bipush 9, 2) := by decide +kernel
theorem dX1_init_65 : decode t_X1_init.2.1 65 = .ok (.if_icmp .gt 22, 3) := by decide +kernel
theorem dX1_init_68 : decode t_X1_init.2.1 68 = .ok (.aload_n 0, 1) := by decide +kernel
theorem dX1_init_69 : decode t_X1_init.2.1 69 = .ok (.getfield 11, 3) := by decide +kernel
theorem gX1_init_69 : wm_gf t_X1_init 69 1 0 := ⟨_, _, _, 11, rfl, by decide, wd_295, dX1_init_69⟩
theorem dX1_init_72 : decode t_X1_init.2.1 72 = .ok (.iload_n 3, 1) := by decide +kernel
theorem dX1_init_73 : decode t_X1_init.2.1 73 = .ok (.new 9, 3) := by decide +kernel
theorem nX1_init_73 : wc_nw t_X1_init 73 3 1 [.null] := ⟨_, _, 9, tyX3, rfl, wd_293, wd_194, wd_83, tyX3_ok, by decide +kernel, dX1_init_73⟩
theorem dX1_init_76 : decode t_X1_init.2.1 76 = .ok (.dup, 1) := by decide +kernel
theorem dX1_init_77 : decode t_X1_init.2.1 77 = .ok (.invokespecial 17, 3) := by decide +kernel
theorem iX1_init_77 : wc_in t_X1_init t_X3_init 77 := ⟨17, by decide, dX1_init_77⟩
theorem dX1_init_80 : decode t_X1_init.2.1 80 = .ok (.aastore, 1) := by decide +kernel
theorem dX1_init_81 : decode t_X1_init.2.1 81 = .ok (.iinc 3 1, 3) := by decide +kernel
theorem dX1_init_84 : decode t_X1_init.2.1 84 = .ok (.goto (-22), 3) := by decide +kernel
theorem dX1_init_87 : decode t_X1_init.2.1 87 = .ok (.return_, 1) := by decide +kernel
abbrev t_X9_init : wm_T := (yX9_init, cX9_init, 1, none, 3, 67)
theorem wd_97 : Cond.code yX9_init cX9_init 1 none ∈ lw_gd := List.mem_filter.mpr ⟨List.mem_of_getElem? (i := 97) (by decide +kernel), by decide +kernel⟩
theorem wd_96 : Cond.instanceMethod yX9_init ∈ lw_gd := List.mem_filter.mpr ⟨List.mem_of_getElem? (i := 96) (by decide +kernel), by decide +kernel⟩
theorem vX9_init : wc_calI t_X9_init 0 := ⟨⟨wd_97, wd_77, by decide +kernel, by decide +kernel, by decide +kernel⟩, wd_96, rfl, rfl⟩
theorem dX9_init_0 : decode t_X9_init.2.1 0 = .ok (.aload_n 0, 1) := by decide +kernel
theorem dX9_init_1 : decode t_X9_init.2.1 1 = .ok (.invokespecial 3, 3) := by decide +kernel
theorem wd_98 : Cond.methodLink RX9 3 objectInit ∈ lw_gd := List.mem_filter.mpr ⟨List.mem_of_getElem? (i := 98) (by decide +kernel), by decide +kernel⟩
theorem iX9_init_1 : wc_ob t_X9_init 1 := ⟨3, wd_98, dX9_init_1⟩
theorem dX9_init_4 : decode t_X9_init.2.1 4 = .ok (.aload_n 0, 1) := by decide +kernel
theorem dX9_init_5 : decode t_X9_init.2.1 5 = .ok (.new 9, 3) := by decide +kernel
theorem wd_101 : Cond.classLink RX9 9 RX5 ∈ lw_gd := List.mem_filter.mpr ⟨List.mem_of_getElem? (i := 101) (by decide +kernel), by decide +kernel⟩
theorem nX9_init_5 : wc_nw t_X9_init 5 5 3 [.int 0, .null, .null] := ⟨_, _, 9, tyX5, rfl, wd_101, wd_102, wd_78, tyX5_ok, by decide +kernel, dX9_init_5⟩
theorem dX9_init_8 : decode t_X9_init.2.1 8 = .ok (.dup, 1) := by decide +kernel
theorem dX9_init_9 : decode t_X9_init.2.1 9 = .ok (.bipush 6, 2) := by decide +kernel
theorem dX9_init_11 : decode t_X9_init.2.1 11 = .ok (.bipush 60, 2) := by decide +kernel
theorem dX9_init_13 : decode t_X9_init.2.1 13 = .ok (.invokespecial 11, 3) := by decide +kernel
theorem wd_103 : Cond.methodLink RX9 11 yX5_init ∈ lw_gd := List.mem_filter.mpr ⟨List.mem_of_getElem? (i := 103) (by decide +kernel), by decide +kernel⟩
theorem iX9_init_13 : wc_ii t_X9_init t_X5_init 13 := ⟨11, wd_103, dX9_init_13⟩
theorem dX9_init_16 : decode t_X9_init.2.1 16 = .ok (.putfield 14, 3) := by decide +kernel
theorem pX9_init_16 : wc_pf t_X9_init 16 9 0 (.object "TurnedStones$Table") := ⟨_, _, _, 14, rfl, by decide, wd_346, dX9_init_16, by decide +kernel, rfl⟩
theorem dX9_init_19 : decode t_X9_init.2.1 19 = .ok (.aload_n 0, 1) := by decide +kernel
theorem dX9_init_20 : decode t_X9_init.2.1 20 = .ok (.new 9, 3) := by decide +kernel
theorem nX9_init_20 : wc_nw t_X9_init 20 5 3 [.int 0, .null, .null] := ⟨_, _, 9, tyX5, rfl, wd_101, wd_102, wd_78, tyX5_ok, by decide +kernel, dX9_init_20⟩
theorem dX9_init_23 : decode t_X9_init.2.1 23 = .ok (.dup, 1) := by decide +kernel
theorem dX9_init_24 : decode t_X9_init.2.1 24 = .ok (.iconst 4, 1) := by decide +kernel
theorem dX9_init_25 : decode t_X9_init.2.1 25 = .ok (.bipush 80, 2) := by decide +kernel
theorem dX9_init_27 : decode t_X9_init.2.1 27 = .ok (.invokespecial 11, 3) := by decide +kernel
theorem iX9_init_27 : wc_ii t_X9_init t_X5_init 27 := ⟨11, wd_103, dX9_init_27⟩
theorem dX9_init_30 : decode t_X9_init.2.1 30 = .ok (.putfield 18, 3) := by decide +kernel
theorem pX9_init_30 : wc_pf t_X9_init 30 9 1 (.object "TurnedStones$Table") := ⟨_, _, _, 18, rfl, by decide, wd_347, dX9_init_30, by decide +kernel, rfl⟩
theorem dX9_init_33 : decode t_X9_init.2.1 33 = .ok (.aload_n 0, 1) := by decide +kernel
theorem dX9_init_34 : decode t_X9_init.2.1 34 = .ok (.new 21, 3) := by decide +kernel
theorem wd_124 : Cond.classLink RX9 21 RX4 ∈ lw_gd := List.mem_filter.mpr ⟨List.mem_of_getElem? (i := 124) (by decide +kernel), by decide +kernel⟩
theorem wd_125 : Cond.instantiable RX4 6 ∈ lw_gd := List.mem_filter.mpr ⟨List.mem_of_getElem? (i := 125) (by decide +kernel), by decide +kernel⟩
theorem nX9_init_34 : wc_nw t_X9_init 34 4 6 [.int 0, .int 0, .null, .null, .null, .null] := ⟨_, _, 21, tyX4, rfl, wd_124, wd_125, wd_80, tyX4_ok, by decide +kernel, dX9_init_34⟩
theorem dX9_init_37 : decode t_X9_init.2.1 37 = .ok (.dup, 1) := by decide +kernel
theorem dX9_init_38 : decode t_X9_init.2.1 38 = .ok (.invokespecial 23, 3) := by decide +kernel
theorem iX9_init_38 : wc_in t_X9_init t_X4_init 38 := ⟨23, by decide, dX9_init_38⟩
theorem dX9_init_41 : decode t_X9_init.2.1 41 = .ok (.putfield 24, 3) := by decide +kernel
theorem pX9_init_41 : wc_pf t_X9_init 41 9 2 (.object "TurnedStones$Stones") := ⟨_, _, _, 24, rfl, by decide, wd_348, dX9_init_41, by decide +kernel, rfl⟩
theorem dX9_init_44 : decode t_X9_init.2.1 44 = .ok (.aload_n 0, 1) := by decide +kernel
theorem dX9_init_45 : decode t_X9_init.2.1 45 = .ok (.new 21, 3) := by decide +kernel
theorem nX9_init_45 : wc_nw t_X9_init 45 4 6 [.int 0, .int 0, .null, .null, .null, .null] := ⟨_, _, 21, tyX4, rfl, wd_124, wd_125, wd_80, tyX4_ok, by decide +kernel, dX9_init_45⟩
theorem dX9_init_48 : decode t_X9_init.2.1 48 = .ok (.dup, 1) := by decide +kernel
theorem dX9_init_49 : decode t_X9_init.2.1 49 = .ok (.invokespecial 23, 3) := by decide +kernel
theorem iX9_init_49 : wc_in t_X9_init t_X4_init 49 := ⟨23, by decide, dX9_init_49⟩
theorem dX9_init_52 : decode t_X9_init.2.1 52 = .ok (.putfield 28, 3) := by decide +kernel
theorem pX9_init_52 : wc_pf t_X9_init 52 9 3 (.object "TurnedStones$Stones") := ⟨_, _, _, 28, rfl, by decide, wd_349, dX9_init_52, by decide +kernel, rfl⟩
theorem dX9_init_55 : decode t_X9_init.2.1 55 = .ok (.aload_n 0, 1) := by decide +kernel
theorem dX9_init_56 : decode t_X9_init.2.1 56 = .ok (.new 31, 3) := by decide +kernel
theorem wd_162 : Cond.classLink RX9 31 RX7 ∈ lw_gd := List.mem_filter.mpr ⟨List.mem_of_getElem? (i := 162) (by decide +kernel), by decide +kernel⟩
theorem wd_163 : Cond.instantiable RX7 5 ∈ lw_gd := List.mem_filter.mpr ⟨List.mem_of_getElem? (i := 163) (by decide +kernel), by decide +kernel⟩
theorem nX9_init_56 : wc_nw t_X9_init 56 7 5 [.null, .null, .int 0, .int 0, .int 0] := ⟨_, _, 31, tyX7, rfl, wd_162, wd_163, wd_81, tyX7_ok, by decide +kernel, dX9_init_56⟩
theorem dX9_init_59 : decode t_X9_init.2.1 59 = .ok (.dup, 1) := by decide +kernel
theorem dX9_init_60 : decode t_X9_init.2.1 60 = .ok (.aload_n 0, 1) := by decide +kernel
theorem dX9_init_61 : decode t_X9_init.2.1 61 = .ok (.getfield 18, 3) := by decide +kernel
theorem gX9_init_61 : wm_gf t_X9_init 61 9 1 := ⟨_, _, _, 18, rfl, by decide, wd_347, dX9_init_61⟩
theorem dX9_init_64 : decode t_X9_init.2.1 64 = .ok (.aload_n 0, 1) := by decide +kernel
theorem dX9_init_65 : decode t_X9_init.2.1 65 = .ok (.getfield 28, 3) := by decide +kernel
theorem gX9_init_65 : wm_gf t_X9_init 65 9 3 := ⟨_, _, _, 28, rfl, by decide, wd_349, dX9_init_65⟩
theorem dX9_init_68 : decode t_X9_init.2.1 68 = .ok (.invokespecial 33, 3) := by decide +kernel
theorem wd_164 : Cond.methodLink RX9 33 yX7_init ∈ lw_gd := List.mem_filter.mpr ⟨List.mem_of_getElem? (i := 164) (by decide +kernel), by decide +kernel⟩
theorem iX9_init_68 : wc_ii t_X9_init t_X7_init 68 := ⟨33, wd_164, dX9_init_68⟩
theorem dX9_init_71 : decode t_X9_init.2.1 71 = .ok (.putfield 36, 3) := by decide +kernel
theorem pX9_init_71 : wc_pf t_X9_init 71 9 4 (.object "TurnedStones$TownReader") := ⟨_, _, _, 36, rfl, by decide, wd_350, dX9_init_71, by decide +kernel, rfl⟩
theorem dX9_init_74 : decode t_X9_init.2.1 74 = .ok (.aload_n 0, 1) := by decide +kernel
theorem dX9_init_75 : decode t_X9_init.2.1 75 = .ok (.new 40, 3) := by decide +kernel
theorem wd_184 : Cond.classLink RX9 40 RX0 ∈ lw_gd := List.mem_filter.mpr ⟨List.mem_of_getElem? (i := 184) (by decide +kernel), by decide +kernel⟩
theorem wd_185 : Cond.instantiable RX0 5 ∈ lw_gd := List.mem_filter.mpr ⟨List.mem_of_getElem? (i := 185) (by decide +kernel), by decide +kernel⟩
theorem nX9_init_75 : wc_nw t_X9_init 75 0 5 [.null, .null, .int 0, .null, .null] := ⟨_, _, 40, tyX0, rfl, wd_184, wd_185, wd_82, tyX0_ok, by decide +kernel, dX9_init_75⟩
theorem dX9_init_78 : decode t_X9_init.2.1 78 = .ok (.dup, 1) := by decide +kernel
theorem dX9_init_79 : decode t_X9_init.2.1 79 = .ok (.aload_n 0, 1) := by decide +kernel
theorem dX9_init_80 : decode t_X9_init.2.1 80 = .ok (.getfield 24, 3) := by decide +kernel
theorem gX9_init_80 : wm_gf t_X9_init 80 9 2 := ⟨_, _, _, 24, rfl, by decide, wd_348, dX9_init_80⟩
theorem dX9_init_83 : decode t_X9_init.2.1 83 = .ok (.invokespecial 42, 3) := by decide +kernel
theorem wd_186 : Cond.methodLink RX9 42 yX0_init ∈ lw_gd := List.mem_filter.mpr ⟨List.mem_of_getElem? (i := 186) (by decide +kernel), by decide +kernel⟩
theorem iX9_init_83 : wc_ii t_X9_init t_X0_init 83 := ⟨42, wd_186, dX9_init_83⟩
theorem dX9_init_86 : decode t_X9_init.2.1 86 = .ok (.putfield 45, 3) := by decide +kernel
theorem pX9_init_86 : wc_pf t_X9_init 86 9 5 (.object "TurnedStones$LawBook") := ⟨_, _, _, 45, rfl, by decide, wd_351, dX9_init_86, by decide +kernel, rfl⟩
theorem dX9_init_89 : decode t_X9_init.2.1 89 = .ok (.aload_n 0, 1) := by decide +kernel
theorem dX9_init_90 : decode t_X9_init.2.1 90 = .ok (.new 49, 3) := by decide +kernel
theorem wd_224 : Cond.classLink RX9 49 RX8 ∈ lw_gd := List.mem_filter.mpr ⟨List.mem_of_getElem? (i := 224) (by decide +kernel), by decide +kernel⟩
theorem wd_225 : Cond.instantiable RX8 8 ∈ lw_gd := List.mem_filter.mpr ⟨List.mem_of_getElem? (i := 225) (by decide +kernel), by decide +kernel⟩
theorem nX9_init_90 : wc_nw t_X9_init 90 8 8 [.int 0, .int 0, .null, .null, .null, .null, .null, .null] := ⟨_, _, 49, tyX8, rfl, wd_224, wd_225, wd_84, tyX8_ok, by decide +kernel, dX9_init_90⟩
theorem dX9_init_93 : decode t_X9_init.2.1 93 = .ok (.dup, 1) := by decide +kernel
theorem dX9_init_94 : decode t_X9_init.2.1 94 = .ok (.aload_n 0, 1) := by decide +kernel
theorem dX9_init_95 : decode t_X9_init.2.1 95 = .ok (.getfield 24, 3) := by decide +kernel
theorem gX9_init_95 : wm_gf t_X9_init 95 9 2 := ⟨_, _, _, 24, rfl, by decide, wd_348, dX9_init_95⟩
theorem dX9_init_98 : decode t_X9_init.2.1 98 = .ok (.aload_n 0, 1) := by decide +kernel
theorem dX9_init_99 : decode t_X9_init.2.1 99 = .ok (.getfield 45, 3) := by decide +kernel
theorem gX9_init_99 : wm_gf t_X9_init 99 9 5 := ⟨_, _, _, 45, rfl, by decide, wd_351, dX9_init_99⟩
theorem dX9_init_102 : decode t_X9_init.2.1 102 = .ok (.invokespecial 51, 3) := by decide +kernel
theorem wd_226 : Cond.methodLink RX9 51 yX8_init ∈ lw_gd := List.mem_filter.mpr ⟨List.mem_of_getElem? (i := 226) (by decide +kernel), by decide +kernel⟩
theorem iX9_init_102 : wc_ii t_X9_init t_X8_init 102 := ⟨51, wd_226, dX9_init_102⟩
theorem dX9_init_105 : decode t_X9_init.2.1 105 = .ok (.putfield 54, 3) := by decide +kernel
theorem pX9_init_105 : wc_pf t_X9_init 105 9 6 (.object "TurnedStones$Wants") := ⟨_, _, _, 54, rfl, by decide, wd_352, dX9_init_105, by decide +kernel, rfl⟩
theorem dX9_init_108 : decode t_X9_init.2.1 108 = .ok (.aload_n 0, 1) := by decide +kernel
theorem dX9_init_109 : decode t_X9_init.2.1 109 = .ok (.new 58, 3) := by decide +kernel
theorem wd_259 : Cond.classLink RX9 58 RX2 ∈ lw_gd := List.mem_filter.mpr ⟨List.mem_of_getElem? (i := 259) (by decide +kernel), by decide +kernel⟩
theorem wd_260 : Cond.instantiable RX2 6 ∈ lw_gd := List.mem_filter.mpr ⟨List.mem_of_getElem? (i := 260) (by decide +kernel), by decide +kernel⟩
theorem nX9_init_109 : wc_nw t_X9_init 109 2 6 [.int 0, .null, .null, .null, .null, .null] := ⟨_, _, 58, tyX2, rfl, wd_259, wd_260, wd_85, tyX2_ok, by decide +kernel, dX9_init_109⟩
theorem dX9_init_112 : decode t_X9_init.2.1 112 = .ok (.dup, 1) := by decide +kernel
theorem dX9_init_113 : decode t_X9_init.2.1 113 = .ok (.aload_n 0, 1) := by decide +kernel
theorem dX9_init_114 : decode t_X9_init.2.1 114 = .ok (.getfield 24, 3) := by decide +kernel
theorem gX9_init_114 : wm_gf t_X9_init 114 9 2 := ⟨_, _, _, 24, rfl, by decide, wd_348, dX9_init_114⟩
theorem dX9_init_117 : decode t_X9_init.2.1 117 = .ok (.invokespecial 60, 3) := by decide +kernel
theorem wd_261 : Cond.methodLink RX9 60 yX2_init ∈ lw_gd := List.mem_filter.mpr ⟨List.mem_of_getElem? (i := 261) (by decide +kernel), by decide +kernel⟩
theorem iX9_init_117 : wc_ii t_X9_init t_X2_init 117 := ⟨60, wd_261, dX9_init_117⟩
theorem dX9_init_120 : decode t_X9_init.2.1 120 = .ok (.putfield 61, 3) := by decide +kernel
theorem pX9_init_120 : wc_pf t_X9_init 120 9 7 (.object "TurnedStones$Records") := ⟨_, _, _, 61, rfl, by decide, wd_353, dX9_init_120, by decide +kernel, rfl⟩
theorem dX9_init_123 : decode t_X9_init.2.1 123 = .ok (.aload_n 0, 1) := by decide +kernel
theorem dX9_init_124 : decode t_X9_init.2.1 124 = .ok (.new 65, 3) := by decide +kernel
theorem wd_287 : Cond.classLink RX9 65 RX1 ∈ lw_gd := List.mem_filter.mpr ⟨List.mem_of_getElem? (i := 287) (by decide +kernel), by decide +kernel⟩
theorem wd_288 : Cond.instantiable RX1 7 ∈ lw_gd := List.mem_filter.mpr ⟨List.mem_of_getElem? (i := 288) (by decide +kernel), by decide +kernel⟩
theorem nX9_init_124 : wc_nw t_X9_init 124 1 7 [.null, .null, .null, .null, .null, .null, .null] := ⟨_, _, 65, tyX1, rfl, wd_287, wd_288, wd_86, tyX1_ok, by decide +kernel, dX9_init_124⟩
theorem dX9_init_127 : decode t_X9_init.2.1 127 = .ok (.dup, 1) := by decide +kernel
theorem dX9_init_128 : decode t_X9_init.2.1 128 = .ok (.aload_n 0, 1) := by decide +kernel
theorem dX9_init_129 : decode t_X9_init.2.1 129 = .ok (.getfield 24, 3) := by decide +kernel
theorem gX9_init_129 : wm_gf t_X9_init 129 9 2 := ⟨_, _, _, 24, rfl, by decide, wd_348, dX9_init_129⟩
theorem dX9_init_132 : decode t_X9_init.2.1 132 = .ok (.aload_n 0, 1) := by decide +kernel
theorem dX9_init_133 : decode t_X9_init.2.1 133 = .ok (.getfield 61, 3) := by decide +kernel
theorem gX9_init_133 : wm_gf t_X9_init 133 9 7 := ⟨_, _, _, 61, rfl, by decide, wd_353, dX9_init_133⟩
theorem dX9_init_136 : decode t_X9_init.2.1 136 = .ok (.invokespecial 67, 3) := by decide +kernel
theorem wd_289 : Cond.methodLink RX9 67 yX1_init ∈ lw_gd := List.mem_filter.mpr ⟨List.mem_of_getElem? (i := 289) (by decide +kernel), by decide +kernel⟩
theorem iX9_init_136 : wc_ii t_X9_init t_X1_init 136 := ⟨67, wd_289, dX9_init_136⟩
theorem dX9_init_139 : decode t_X9_init.2.1 139 = .ok (.putfield 70, 3) := by decide +kernel
theorem pX9_init_139 : wc_pf t_X9_init 139 9 8 (.object "TurnedStones$Past") := ⟨_, _, _, 70, rfl, by decide, wd_354, dX9_init_139, by decide +kernel, rfl⟩
theorem dX9_init_142 : decode t_X9_init.2.1 142 = .ok (.aload_n 0, 1) := by decide +kernel
theorem dX9_init_143 : decode t_X9_init.2.1 143 = .ok (.new 74, 3) := by decide +kernel
theorem wd_318 : Cond.classLink RX9 74 RX6 ∈ lw_gd := List.mem_filter.mpr ⟨List.mem_of_getElem? (i := 318) (by decide +kernel), by decide +kernel⟩
theorem wd_319 : Cond.instantiable RX6 5 ∈ lw_gd := List.mem_filter.mpr ⟨List.mem_of_getElem? (i := 319) (by decide +kernel), by decide +kernel⟩
theorem nX9_init_143 : wc_nw t_X9_init 143 6 5 [.int 0, .long 0, .long 0, .int 0, .null] := ⟨_, _, 74, tyX6, rfl, wd_318, wd_319, wd_87, tyX6_ok, by decide +kernel, dX9_init_143⟩
theorem dX9_init_146 : decode t_X9_init.2.1 146 = .ok (.dup, 1) := by decide +kernel
theorem dX9_init_147 : decode t_X9_init.2.1 147 = .ok (.invokespecial 76, 3) := by decide +kernel
theorem iX9_init_147 : wc_in t_X9_init t_X6_init 147 := ⟨76, by decide, dX9_init_147⟩
theorem dX9_init_150 : decode t_X9_init.2.1 150 = .ok (.putfield 77, 3) := by decide +kernel
theorem pX9_init_150 : wc_pf t_X9_init 150 9 9 (.object "TurnedStones$Told") := ⟨_, _, _, 77, rfl, by decide, wd_355, dX9_init_150, by decide +kernel, rfl⟩
theorem dX9_init_153 : decode t_X9_init.2.1 153 = .ok (.aload_n 0, 1) := by decide +kernel
theorem dX9_init_154 : decode t_X9_init.2.1 154 = .ok (.iconst 3, 1) := by decide +kernel
theorem dX9_init_155 : decode t_X9_init.2.1 155 = .ok (.newarray .int, 2) := by decide +kernel
theorem dX9_init_157 : decode t_X9_init.2.1 157 = .ok (.putfield 81, 3) := by decide +kernel
theorem pX9_init_157 : wc_pf t_X9_init 157 9 10 (.array .int) := ⟨_, _, _, 81, rfl, by decide, wd_356, dX9_init_157, by decide +kernel, rfl⟩
theorem dX9_init_160 : decode t_X9_init.2.1 160 = .ok (.aload_n 0, 1) := by decide +kernel
theorem dX9_init_161 : decode t_X9_init.2.1 161 = .ok (.iconst 3, 1) := by decide +kernel
theorem dX9_init_162 : decode t_X9_init.2.1 162 = .ok (.newarray .int, 2) := by decide +kernel
theorem dX9_init_164 : decode t_X9_init.2.1 164 = .ok (.putfield 85, 3) := by decide +kernel
theorem pX9_init_164 : wc_pf t_X9_init 164 9 11 (.array .int) := ⟨_, _, _, 85, rfl, by decide, wd_357, dX9_init_164, by decide +kernel, rfl⟩
theorem dX9_init_167 : decode t_X9_init.2.1 167 = .ok (.aload_n 0, 1) := by decide +kernel
theorem dX9_init_168 : decode t_X9_init.2.1 168 = .ok (.iconst 0, 1) := by decide +kernel
theorem dX9_init_169 : decode t_X9_init.2.1 169 = .ok (.putfield 88, 3) := by decide +kernel
theorem pX9_init_169 : wc_pf t_X9_init 169 9 12 .int := ⟨_, _, _, 88, rfl, by decide, wd_358, dX9_init_169, by decide +kernel, rfl⟩
theorem dX9_init_172 : decode t_X9_init.2.1 172 = .ok (.aload_n 0, 1) := by decide +kernel
theorem dX9_init_173 : decode t_X9_init.2.1 173 = .ok (.iconst 0, 1) := by decide +kernel
theorem dX9_init_174 : decode t_X9_init.2.1 174 = .ok (.putfield 92, 3) := by decide +kernel
theorem pX9_init_174 : wc_pf t_X9_init 174 9 13 .int := ⟨_, _, _, 92, rfl, by decide, wd_359, dX9_init_174, by decide +kernel, rfl⟩
theorem dX9_init_177 : decode t_X9_init.2.1 177 = .ok (.aload_n 0, 1) := by decide +kernel
theorem dX9_init_178 : decode t_X9_init.2.1 178 = .ok (.getfield 85, 3) := by decide +kernel
theorem gX9_init_178 : wm_gf t_X9_init 178 9 11 := ⟨_, _, _, 85, rfl, by decide, wd_357, dX9_init_178⟩
theorem dX9_init_181 : decode t_X9_init.2.1 181 = .ok (.iconst (-1), 1) := by decide +kernel
theorem dX9_init_182 : decode t_X9_init.2.1 182 = .ok (.invokestatic 95, 3) := by decide +kernel
theorem iX9_init_182 : wm_is t_X9_init t_J7_fill_53178 182 := ⟨95, wd_345, dX9_init_182⟩
theorem dX9_init_185 : decode t_X9_init.2.1 185 = .ok (.return_, 1) := by decide +kernel
abbrev t_X10_init : wm_T := (yX10_init, cX10_init, 2, none, 1, 20)
theorem wd_1111 : Cond.code yX10_init cX10_init 2 none ∈ lw_gd := List.mem_filter.mpr ⟨List.mem_of_getElem? (i := 1111) (by decide +kernel), by decide +kernel⟩
theorem wd_1110 : Cond.instanceMethod yX10_init ∈ lw_gd := List.mem_filter.mpr ⟨List.mem_of_getElem? (i := 1110) (by decide +kernel), by decide +kernel⟩
theorem vX10_init : wc_calI t_X10_init 0 := ⟨⟨wd_1111, wd_88, by decide +kernel, by decide +kernel, by decide +kernel⟩, wd_1110, rfl, rfl⟩
theorem dX10_init_0 : decode t_X10_init.2.1 0 = .ok (.aload_n 0, 1) := by decide +kernel
theorem dX10_init_1 : decode t_X10_init.2.1 1 = .ok (.invokespecial 1, 3) := by decide +kernel
theorem wd_1112 : Cond.methodLink RX10 1 objectInit ∈ lw_gd := List.mem_filter.mpr ⟨List.mem_of_getElem? (i := 1112) (by decide +kernel), by decide +kernel⟩
theorem iX10_init_1 : wc_ob t_X10_init 1 := ⟨1, wd_1112, dX10_init_1⟩
theorem dX10_init_4 : decode t_X10_init.2.1 4 = .ok (.aload_n 0, 1) := by decide +kernel
theorem dX10_init_5 : decode t_X10_init.2.1 5 = .ok (.bipush 6, 2) := by decide +kernel
theorem dX10_init_7 : decode t_X10_init.2.1 7 = .ok (.newarray .int, 2) := by decide +kernel
theorem dX10_init_9 : decode t_X10_init.2.1 9 = .ok (.putfield 7, 3) := by decide +kernel
theorem pX10_init_9 : wc_pf t_X10_init 9 10 1 (.array .int) := ⟨_, _, _, 7, rfl, by decide, wd_1115, dX10_init_9, by decide +kernel, rfl⟩
theorem dX10_init_12 : decode t_X10_init.2.1 12 = .ok (.aload_n 0, 1) := by decide +kernel
theorem dX10_init_13 : decode t_X10_init.2.1 13 = .ok (.bipush 6, 2) := by decide +kernel
theorem dX10_init_15 : decode t_X10_init.2.1 15 = .ok (.newarray .int, 2) := by decide +kernel
theorem dX10_init_17 : decode t_X10_init.2.1 17 = .ok (.putfield 13, 3) := by decide +kernel
theorem pX10_init_17 : wc_pf t_X10_init 17 10 5 (.array .int) := ⟨_, _, _, 13, rfl, by decide, wd_1119, dX10_init_17, by decide +kernel, rfl⟩
theorem dX10_init_20 : decode t_X10_init.2.1 20 = .ok (.aload_n 0, 1) := by decide +kernel
theorem dX10_init_21 : decode t_X10_init.2.1 21 = .ok (.sipush 360, 3) := by decide +kernel
theorem dX10_init_24 : decode t_X10_init.2.1 24 = .ok (.newarray .int, 2) := by decide +kernel
theorem dX10_init_26 : decode t_X10_init.2.1 26 = .ok (.putfield 16, 3) := by decide +kernel
theorem pX10_init_26 : wc_pf t_X10_init 26 10 6 (.array .int) := ⟨_, _, _, 16, rfl, by decide, wd_1120, dX10_init_26, by decide +kernel, rfl⟩
theorem dX10_init_29 : decode t_X10_init.2.1 29 = .ok (.aload_n 0, 1) := by decide +kernel
theorem dX10_init_30 : decode t_X10_init.2.1 30 = .ok (.bipush 60, 2) := by decide +kernel
theorem dX10_init_32 : decode t_X10_init.2.1 32 = .ok (.newarray .int, 2) := by decide +kernel
theorem dX10_init_34 : decode t_X10_init.2.1 34 = .ok (.putfield 19, 3) := by decide +kernel
theorem pX10_init_34 : wc_pf t_X10_init 34 10 7 (.array .int) := ⟨_, _, _, 19, rfl, by decide, wd_1121, dX10_init_34, by decide +kernel, rfl⟩
theorem dX10_init_37 : decode t_X10_init.2.1 37 = .ok (.aload_n 0, 1) := by decide +kernel
theorem dX10_init_38 : decode t_X10_init.2.1 38 = .ok (.iconst 4, 1) := by decide +kernel
theorem dX10_init_39 : decode t_X10_init.2.1 39 = .ok (.newarray .int, 2) := by decide +kernel
theorem dX10_init_41 : decode t_X10_init.2.1 41 = .ok (.putfield 22, 3) := by decide +kernel
theorem pX10_init_41 : wc_pf t_X10_init 41 10 8 (.array .int) := ⟨_, _, _, 22, rfl, by decide, wd_1122, dX10_init_41, by decide +kernel, rfl⟩
theorem dX10_init_44 : decode t_X10_init.2.1 44 = .ok (.aload_n 0, 1) := by decide +kernel
theorem dX10_init_45 : decode t_X10_init.2.1 45 = .ok (.sipush 320, 3) := by decide +kernel
theorem dX10_init_48 : decode t_X10_init.2.1 48 = .ok (.newarray .byte, 2) := by decide +kernel
theorem wd_1238 : Cond.arrayClass .byte ∈ lw_gd := List.mem_filter.mpr ⟨List.mem_of_getElem? (i := 1238) (by decide +kernel), by decide +kernel⟩
theorem dX10_init_50 : decode t_X10_init.2.1 50 = .ok (.putfield 25, 3) := by decide +kernel
theorem pX10_init_50 : wc_pf t_X10_init 50 10 9 (.array .byte) := ⟨_, _, _, 25, rfl, by decide, wd_1123, dX10_init_50, by decide +kernel, rfl⟩
theorem dX10_init_53 : decode t_X10_init.2.1 53 = .ok (.aload_n 0, 1) := by decide +kernel
theorem dX10_init_54 : decode t_X10_init.2.1 54 = .ok (.bipush 6, 2) := by decide +kernel
theorem dX10_init_56 : decode t_X10_init.2.1 56 = .ok (.newarray .int, 2) := by decide +kernel
theorem dX10_init_58 : decode t_X10_init.2.1 58 = .ok (.putfield 29, 3) := by decide +kernel
theorem pX10_init_58 : wc_pf t_X10_init 58 10 13 (.array .int) := ⟨_, _, _, 29, rfl, by decide, wd_1127, dX10_init_58, by decide +kernel, rfl⟩
theorem dX10_init_61 : decode t_X10_init.2.1 61 = .ok (.aload_n 0, 1) := by decide +kernel
theorem dX10_init_62 : decode t_X10_init.2.1 62 = .ok (.bipush 24, 2) := by decide +kernel
theorem dX10_init_64 : decode t_X10_init.2.1 64 = .ok (.newarray .int, 2) := by decide +kernel
theorem dX10_init_66 : decode t_X10_init.2.1 66 = .ok (.putfield 32, 3) := by decide +kernel
theorem pX10_init_66 : wc_pf t_X10_init 66 10 14 (.array .int) := ⟨_, _, _, 32, rfl, by decide, wd_1128, dX10_init_66, by decide +kernel, rfl⟩
theorem dX10_init_69 : decode t_X10_init.2.1 69 = .ok (.aload_n 0, 1) := by decide +kernel
theorem dX10_init_70 : decode t_X10_init.2.1 70 = .ok (.bipush 6, 2) := by decide +kernel
theorem dX10_init_72 : decode t_X10_init.2.1 72 = .ok (.newarray .int, 2) := by decide +kernel
theorem dX10_init_74 : decode t_X10_init.2.1 74 = .ok (.putfield 35, 3) := by decide +kernel
theorem pX10_init_74 : wc_pf t_X10_init 74 10 15 (.array .int) := ⟨_, _, _, 35, rfl, by decide, wd_1129, dX10_init_74, by decide +kernel, rfl⟩
theorem dX10_init_77 : decode t_X10_init.2.1 77 = .ok (.aload_n 0, 1) := by decide +kernel
theorem dX10_init_78 : decode t_X10_init.2.1 78 = .ok (.bipush 6, 2) := by decide +kernel
theorem dX10_init_80 : decode t_X10_init.2.1 80 = .ok (.newarray .int, 2) := by decide +kernel
theorem dX10_init_82 : decode t_X10_init.2.1 82 = .ok (.putfield 38, 3) := by decide +kernel
theorem pX10_init_82 : wc_pf t_X10_init 82 10 16 (.array .int) := ⟨_, _, _, 38, rfl, by decide, wd_1130, dX10_init_82, by decide +kernel, rfl⟩
theorem dX10_init_85 : decode t_X10_init.2.1 85 = .ok (.aload_n 0, 1) := by decide +kernel
theorem dX10_init_86 : decode t_X10_init.2.1 86 = .ok (.bipush 6, 2) := by decide +kernel
theorem dX10_init_88 : decode t_X10_init.2.1 88 = .ok (.newarray .int, 2) := by decide +kernel
theorem dX10_init_90 : decode t_X10_init.2.1 90 = .ok (.putfield 41, 3) := by decide +kernel
theorem pX10_init_90 : wc_pf t_X10_init 90 10 17 (.array .int) := ⟨_, _, _, 41, rfl, by decide, wd_1131, dX10_init_90, by decide +kernel, rfl⟩
theorem dX10_init_93 : decode t_X10_init.2.1 93 = .ok (.aload_n 0, 1) := by decide +kernel
theorem dX10_init_94 : decode t_X10_init.2.1 94 = .ok (.bipush 42, 2) := by decide +kernel
theorem dX10_init_96 : decode t_X10_init.2.1 96 = .ok (.newarray .int, 2) := by decide +kernel
theorem dX10_init_98 : decode t_X10_init.2.1 98 = .ok (.putfield 44, 3) := by decide +kernel
theorem pX10_init_98 : wc_pf t_X10_init 98 10 24 (.array .int) := ⟨_, _, _, 44, rfl, by decide, wd_1138, dX10_init_98, by decide +kernel, rfl⟩
theorem dX10_init_101 : decode t_X10_init.2.1 101 = .ok (.aload_n 0, 1) := by decide +kernel
theorem dX10_init_102 : decode t_X10_init.2.1 102 = .ok (.iconst 4, 1) := by decide +kernel
theorem dX10_init_103 : decode t_X10_init.2.1 103 = .ok (.newarray .int, 2) := by decide +kernel
theorem dX10_init_105 : decode t_X10_init.2.1 105 = .ok (.putfield 47, 3) := by decide +kernel
theorem pX10_init_105 : wc_pf t_X10_init 105 10 25 (.array .int) := ⟨_, _, _, 47, rfl, by decide, wd_1139, dX10_init_105, by decide +kernel, rfl⟩
theorem dX10_init_108 : decode t_X10_init.2.1 108 = .ok (.aload_n 0, 1) := by decide +kernel
theorem dX10_init_109 : decode t_X10_init.2.1 109 = .ok (.bipush 12, 2) := by decide +kernel
theorem dX10_init_111 : decode t_X10_init.2.1 111 = .ok (.newarray .int, 2) := by decide +kernel
theorem dX10_init_113 : decode t_X10_init.2.1 113 = .ok (.putfield 50, 3) := by decide +kernel
theorem pX10_init_113 : wc_pf t_X10_init 113 10 26 (.array .int) := ⟨_, _, _, 50, rfl, by decide, wd_1140, dX10_init_113, by decide +kernel, rfl⟩
theorem dX10_init_116 : decode t_X10_init.2.1 116 = .ok (.aload_n 0, 1) := by decide +kernel
theorem dX10_init_117 : decode t_X10_init.2.1 117 = .ok (.bipush 6, 2) := by decide +kernel
theorem dX10_init_119 : decode t_X10_init.2.1 119 = .ok (.newarray .int, 2) := by decide +kernel
theorem dX10_init_121 : decode t_X10_init.2.1 121 = .ok (.putfield 53, 3) := by decide +kernel
theorem pX10_init_121 : wc_pf t_X10_init 121 10 27 (.array .int) := ⟨_, _, _, 53, rfl, by decide, wd_1141, dX10_init_121, by decide +kernel, rfl⟩
theorem dX10_init_124 : decode t_X10_init.2.1 124 = .ok (.aload_n 0, 1) := by decide +kernel
theorem dX10_init_125 : decode t_X10_init.2.1 125 = .ok (.iconst 3, 1) := by decide +kernel
theorem dX10_init_126 : decode t_X10_init.2.1 126 = .ok (.newarray .int, 2) := by decide +kernel
theorem dX10_init_128 : decode t_X10_init.2.1 128 = .ok (.putfield 56, 3) := by decide +kernel
theorem pX10_init_128 : wc_pf t_X10_init 128 10 28 (.array .int) := ⟨_, _, _, 56, rfl, by decide, wd_1142, dX10_init_128, by decide +kernel, rfl⟩
theorem dX10_init_131 : decode t_X10_init.2.1 131 = .ok (.aload_n 0, 1) := by decide +kernel
theorem dX10_init_132 : decode t_X10_init.2.1 132 = .ok (.iconst 3, 1) := by decide +kernel
theorem dX10_init_133 : decode t_X10_init.2.1 133 = .ok (.newarray .int, 2) := by decide +kernel
theorem dX10_init_135 : decode t_X10_init.2.1 135 = .ok (.putfield 59, 3) := by decide +kernel
theorem pX10_init_135 : wc_pf t_X10_init 135 10 29 (.array .int) := ⟨_, _, _, 59, rfl, by decide, wd_1143, dX10_init_135, by decide +kernel, rfl⟩
theorem dX10_init_138 : decode t_X10_init.2.1 138 = .ok (.aload_n 0, 1) := by decide +kernel
theorem dX10_init_139 : decode t_X10_init.2.1 139 = .ok (.sipush 4096, 3) := by decide +kernel
theorem dX10_init_142 : decode t_X10_init.2.1 142 = .ok (.newarray .int, 2) := by decide +kernel
theorem dX10_init_144 : decode t_X10_init.2.1 144 = .ok (.putfield 62, 3) := by decide +kernel
theorem pX10_init_144 : wc_pf t_X10_init 144 10 30 (.array .int) := ⟨_, _, _, 62, rfl, by decide, wd_1144, dX10_init_144, by decide +kernel, rfl⟩
theorem dX10_init_147 : decode t_X10_init.2.1 147 = .ok (.aload_n 0, 1) := by decide +kernel
theorem dX10_init_148 : decode t_X10_init.2.1 148 = .ok (.sipush 4096, 3) := by decide +kernel
theorem dX10_init_151 : decode t_X10_init.2.1 151 = .ok (.newarray .int, 2) := by decide +kernel
theorem dX10_init_153 : decode t_X10_init.2.1 153 = .ok (.putfield 65, 3) := by decide +kernel
theorem pX10_init_153 : wc_pf t_X10_init 153 10 31 (.array .int) := ⟨_, _, _, 65, rfl, by decide, wd_1145, dX10_init_153, by decide +kernel, rfl⟩
theorem dX10_init_156 : decode t_X10_init.2.1 156 = .ok (.aload_n 0, 1) := by decide +kernel
theorem dX10_init_157 : decode t_X10_init.2.1 157 = .ok (.bipush 24, 2) := by decide +kernel
theorem dX10_init_159 : decode t_X10_init.2.1 159 = .ok (.newarray .int, 2) := by decide +kernel
theorem dX10_init_161 : decode t_X10_init.2.1 161 = .ok (.putfield 68, 3) := by decide +kernel
theorem pX10_init_161 : wc_pf t_X10_init 161 10 32 (.array .int) := ⟨_, _, _, 68, rfl, by decide, wd_1146, dX10_init_161, by decide +kernel, rfl⟩
theorem dX10_init_164 : decode t_X10_init.2.1 164 = .ok (.aload_n 0, 1) := by decide +kernel
theorem dX10_init_165 : decode t_X10_init.2.1 165 = .ok (.sipush 4096, 3) := by decide +kernel
theorem dX10_init_168 : decode t_X10_init.2.1 168 = .ok (.newarray .boolean, 2) := by decide +kernel
theorem wd_1239 : Cond.arrayClass .boolean ∈ lw_gd := List.mem_filter.mpr ⟨List.mem_of_getElem? (i := 1239) (by decide +kernel), by decide +kernel⟩
theorem dX10_init_170 : decode t_X10_init.2.1 170 = .ok (.putfield 71, 3) := by decide +kernel
theorem pX10_init_170 : wc_pf t_X10_init 170 10 34 (.array .boolean) := ⟨_, _, _, 71, rfl, by decide, wd_1148, dX10_init_170, by decide +kernel, rfl⟩
theorem dX10_init_173 : decode t_X10_init.2.1 173 = .ok (.aload_n 0, 1) := by decide +kernel
theorem dX10_init_174 : decode t_X10_init.2.1 174 = .ok (.sipush 4096, 3) := by decide +kernel
theorem dX10_init_177 : decode t_X10_init.2.1 177 = .ok (.newarray .boolean, 2) := by decide +kernel
theorem dX10_init_179 : decode t_X10_init.2.1 179 = .ok (.putfield 75, 3) := by decide +kernel
theorem pX10_init_179 : wc_pf t_X10_init 179 10 35 (.array .boolean) := ⟨_, _, _, 75, rfl, by decide, wd_1149, dX10_init_179, by decide +kernel, rfl⟩
theorem dX10_init_182 : decode t_X10_init.2.1 182 = .ok (.aload_n 0, 1) := by decide +kernel
theorem dX10_init_183 : decode t_X10_init.2.1 183 = .ok (.bipush 24, 2) := by decide +kernel
theorem dX10_init_185 : decode t_X10_init.2.1 185 = .ok (.newarray .int, 2) := by decide +kernel
theorem dX10_init_187 : decode t_X10_init.2.1 187 = .ok (.putfield 78, 3) := by decide +kernel
theorem pX10_init_187 : wc_pf t_X10_init 187 10 37 (.array .int) := ⟨_, _, _, 78, rfl, by decide, wd_1151, dX10_init_187, by decide +kernel, rfl⟩
theorem dX10_init_190 : decode t_X10_init.2.1 190 = .ok (.aload_n 0, 1) := by decide +kernel
theorem dX10_init_191 : decode t_X10_init.2.1 191 = .ok (.ldc 81, 2) := by decide +kernel
theorem wd_1113 : Cond.constant RX10 81 (40960) ∈ lw_gd := List.mem_filter.mpr ⟨List.mem_of_getElem? (i := 1113) (by decide +kernel), by decide +kernel⟩
theorem kX10_init_191 : Cond.constant t_X10_init.1.cls 81 (40960) ∈ lw_gd := wd_1113
theorem dX10_init_193 : decode t_X10_init.2.1 193 = .ok (.newarray .long, 2) := by decide +kernel
theorem dX10_init_195 : decode t_X10_init.2.1 195 = .ok (.putfield 82, 3) := by decide +kernel
theorem pX10_init_195 : wc_pf t_X10_init 195 10 38 (.array .long) := ⟨_, _, _, 82, rfl, by decide, wd_1152, dX10_init_195, by decide +kernel, rfl⟩
theorem dX10_init_198 : decode t_X10_init.2.1 198 = .ok (.aload_n 0, 1) := by decide +kernel
theorem dX10_init_199 : decode t_X10_init.2.1 199 = .ok (.ldc 81, 2) := by decide +kernel
theorem kX10_init_199 : Cond.constant t_X10_init.1.cls 81 (40960) ∈ lw_gd := wd_1113
theorem dX10_init_201 : decode t_X10_init.2.1 201 = .ok (.newarray .long, 2) := by decide +kernel
theorem dX10_init_203 : decode t_X10_init.2.1 203 = .ok (.putfield 86, 3) := by decide +kernel
theorem pX10_init_203 : wc_pf t_X10_init 203 10 39 (.array .long) := ⟨_, _, _, 86, rfl, by decide, wd_1153, dX10_init_203, by decide +kernel, rfl⟩
theorem dX10_init_206 : decode t_X10_init.2.1 206 = .ok (.aload_n 0, 1) := by decide +kernel
theorem dX10_init_207 : decode t_X10_init.2.1 207 = .ok (.lconst 1, 1) := by decide +kernel
theorem dX10_init_208 : decode t_X10_init.2.1 208 = .ok (.putfield 89, 3) := by decide +kernel
theorem pX10_init_208 : wc_pf t_X10_init 208 10 4 .long := ⟨_, _, _, 89, rfl, by decide, wd_1118, dX10_init_208, by decide +kernel, rfl⟩
theorem dX10_init_211 : decode t_X10_init.2.1 211 = .ok (.iconst 0, 1) := by decide +kernel
theorem dX10_init_212 : decode t_X10_init.2.1 212 = .ok (.istore_n 1, 1) := by decide +kernel
theorem dX10_init_213 : decode t_X10_init.2.1 213 = .ok (.iload_n 1, 1) := by decide +kernel
theorem dX10_init_214 : decode t_X10_init.2.1 214 = .ok (.bipush 6, 2) := by decide +kernel
theorem dX10_init_216 : decode t_X10_init.2.1 216 = .ok (.if_icmp .ge 16, 3) := by decide +kernel
theorem dX10_init_219 : decode t_X10_init.2.1 219 = .ok (.aload_n 0, 1) := by decide +kernel
theorem dX10_init_220 : decode t_X10_init.2.1 220 = .ok (.getfield 13, 3) := by decide +kernel
theorem gX10_init_220 : wm_gf t_X10_init 220 10 5 := ⟨_, _, _, 13, rfl, by decide, wd_1119, dX10_init_220⟩
theorem dX10_init_223 : decode t_X10_init.2.1 223 = .ok (.iload_n 1, 1) := by decide +kernel
theorem dX10_init_224 : decode t_X10_init.2.1 224 = .ok (.iconst (-1), 1) := by decide +kernel
theorem dX10_init_225 : decode t_X10_init.2.1 225 = .ok (.iastore, 1) := by decide +kernel
theorem dX10_init_226 : decode t_X10_init.2.1 226 = .ok (.iinc 1 1, 3) := by decide +kernel
theorem dX10_init_229 : decode t_X10_init.2.1 229 = .ok (.goto (-16), 3) := by decide +kernel
theorem dX10_init_232 : decode t_X10_init.2.1 232 = .ok (.iconst 0, 1) := by decide +kernel
theorem dX10_init_233 : decode t_X10_init.2.1 233 = .ok (.istore_n 1, 1) := by decide +kernel
theorem dX10_init_234 : decode t_X10_init.2.1 234 = .ok (.iload_n 1, 1) := by decide +kernel
theorem dX10_init_235 : decode t_X10_init.2.1 235 = .ok (.iconst 4, 1) := by decide +kernel
theorem dX10_init_236 : decode t_X10_init.2.1 236 = .ok (.if_icmp .ge 23, 3) := by decide +kernel
theorem dX10_init_239 : decode t_X10_init.2.1 239 = .ok (.aload_n 0, 1) := by decide +kernel
theorem dX10_init_240 : decode t_X10_init.2.1 240 = .ok (.getfield 22, 3) := by decide +kernel
theorem gX10_init_240 : wm_gf t_X10_init 240 10 8 := ⟨_, _, _, 22, rfl, by decide, wd_1122, dX10_init_240⟩
theorem dX10_init_243 : decode t_X10_init.2.1 243 = .ok (.iload_n 1, 1) := by decide +kernel
theorem dX10_init_244 : decode t_X10_init.2.1 244 = .ok (.iconst (-1), 1) := by decide +kernel
theorem dX10_init_245 : decode t_X10_init.2.1 245 = .ok (.iastore, 1) := by decide +kernel
theorem dX10_init_246 : decode t_X10_init.2.1 246 = .ok (.aload_n 0, 1) := by decide +kernel
theorem dX10_init_247 : decode t_X10_init.2.1 247 = .ok (.getfield 47, 3) := by decide +kernel
theorem gX10_init_247 : wm_gf t_X10_init 247 10 25 := ⟨_, _, _, 47, rfl, by decide, wd_1139, dX10_init_247⟩
theorem dX10_init_250 : decode t_X10_init.2.1 250 = .ok (.iload_n 1, 1) := by decide +kernel
theorem dX10_init_251 : decode t_X10_init.2.1 251 = .ok (.iconst (-1), 1) := by decide +kernel
theorem dX10_init_252 : decode t_X10_init.2.1 252 = .ok (.iastore, 1) := by decide +kernel
theorem dX10_init_253 : decode t_X10_init.2.1 253 = .ok (.iinc 1 1, 3) := by decide +kernel
theorem dX10_init_256 : decode t_X10_init.2.1 256 = .ok (.goto (-22), 3) := by decide +kernel
theorem dX10_init_259 : decode t_X10_init.2.1 259 = .ok (.iconst 0, 1) := by decide +kernel
theorem dX10_init_260 : decode t_X10_init.2.1 260 = .ok (.istore_n 1, 1) := by decide +kernel
theorem dX10_init_261 : decode t_X10_init.2.1 261 = .ok (.iload_n 1, 1) := by decide +kernel
theorem dX10_init_262 : decode t_X10_init.2.1 262 = .ok (.iconst 3, 1) := by decide +kernel
theorem dX10_init_263 : decode t_X10_init.2.1 263 = .ok (.if_icmp .ge 16, 3) := by decide +kernel
theorem dX10_init_266 : decode t_X10_init.2.1 266 = .ok (.aload_n 0, 1) := by decide +kernel
theorem dX10_init_267 : decode t_X10_init.2.1 267 = .ok (.getfield 56, 3) := by decide +kernel
theorem gX10_init_267 : wm_gf t_X10_init 267 10 28 := ⟨_, _, _, 56, rfl, by decide, wd_1142, dX10_init_267⟩
theorem dX10_init_270 : decode t_X10_init.2.1 270 = .ok (.iload_n 1, 1) := by decide +kernel
theorem dX10_init_271 : decode t_X10_init.2.1 271 = .ok (.iconst (-1), 1) := by decide +kernel
theorem dX10_init_272 : decode t_X10_init.2.1 272 = .ok (.iastore, 1) := by decide +kernel
theorem dX10_init_273 : decode t_X10_init.2.1 273 = .ok (.iinc 1 1, 3) := by decide +kernel
theorem dX10_init_276 : decode t_X10_init.2.1 276 = .ok (.goto (-15), 3) := by decide +kernel
theorem dX10_init_279 : decode t_X10_init.2.1 279 = .ok (.return_, 1) := by decide +kernel
