theorem wd_936 : Cond.code yX2_add cX2_add 6 (some .int) ∈ lw_gd := List.mem_filter.mpr ⟨List.mem_of_getElem? (i := 936) (by decide +kernel), by decide +kernel⟩
theorem wd_85 : Cond.initialized RX2 ∈ lw_gd := List.mem_filter.mpr ⟨List.mem_of_getElem? (i := 85) (by decide +kernel), by decide +kernel⟩
theorem wd_934 : Cond.instanceMethod yX2_add ∈ lw_gd := List.mem_filter.mpr ⟨List.mem_of_getElem? (i := 934) (by decide +kernel), by decide +kernel⟩
theorem wd_935 : Cond.selects RX2 yX2_add yX2_add ∈ lw_gd := List.mem_filter.mpr ⟨List.mem_of_getElem? (i := 935) (by decide +kernel), by decide +kernel⟩
theorem vX2_add : wm_calV t_X2_add 5 := ⟨⟨wd_936, wd_85, by decide +kernel, by decide +kernel, by decide +kernel⟩, wd_934, wd_935⟩
theorem dX2_add_0 : decode t_X2_add.2.1 0 = .ok (.aload_n 0, 1) := by decide +kernel
theorem dX2_add_1 : decode t_X2_add.2.1 1 = .ok (.getfield 9, 3) := by decide +kernel
theorem wd_267 : Cond.fieldLink RX2 9 "TurnedStones$Records" "number" "I" ∈ lw_gd := List.mem_filter.mpr ⟨List.mem_of_getElem? (i := 267) (by decide +kernel), by decide +kernel⟩
theorem gX2_add_1 : wm_gf t_X2_add 1 2 0 := ⟨_, _, _, 9, rfl, by decide, wd_267, dX2_add_1⟩
theorem dX2_add_4 : decode t_X2_add.2.1 4 = .ok (.ifCond .lt 11, 3) := by decide +kernel
theorem dX2_add_7 : decode t_X2_add.2.1 7 = .ok (.aload_n 0, 1) := by decide +kernel
theorem dX2_add_8 : decode t_X2_add.2.1 8 = .ok (.getfield 9, 3) := by decide +kernel
theorem gX2_add_8 : wm_gf t_X2_add 8 2 0 := ⟨_, _, _, 9, rfl, by decide, wd_267, dX2_add_8⟩
theorem dX2_add_11 : decode t_X2_add.2.1 11 = .ok (.iconst 4, 1) := by decide +kernel
theorem dX2_add_12 : decode t_X2_add.2.1 12 = .ok (.if_icmp .lt 6, 3) := by decide +kernel
theorem dX2_add_15 : decode t_X2_add.2.1 15 = .ok (.bipush (-2), 2) := by decide +kernel
theorem dX2_add_17 : decode t_X2_add.2.1 17 = .ok (.ireturn, 1) := by decide +kernel
theorem dX2_add_18 : decode t_X2_add.2.1 18 = .ok (.aload_n 0, 1) := by decide +kernel
theorem dX2_add_19 : decode t_X2_add.2.1 19 = .ok (.getfield 15, 3) := by decide +kernel
theorem wd_270 : Cond.fieldLink RX2 15 "TurnedStones$Records" "years" "[I" ∈ lw_gd := List.mem_filter.mpr ⟨List.mem_of_getElem? (i := 270) (by decide +kernel), by decide +kernel⟩
theorem gX2_add_19 : wm_gf t_X2_add 19 2 2 := ⟨_, _, _, 15, rfl, by decide, wd_270, dX2_add_19⟩
theorem dX2_add_22 : decode t_X2_add.2.1 22 = .ok (.aload_n 0, 1) := by decide +kernel
theorem dX2_add_23 : decode t_X2_add.2.1 23 = .ok (.getfield 9, 3) := by decide +kernel
theorem gX2_add_23 : wm_gf t_X2_add 23 2 0 := ⟨_, _, _, 9, rfl, by decide, wd_267, dX2_add_23⟩
theorem dX2_add_26 : decode t_X2_add.2.1 26 = .ok (.iload_n 1, 1) := by decide +kernel
theorem dX2_add_27 : decode t_X2_add.2.1 27 = .ok (.iastore, 1) := by decide +kernel
theorem dX2_add_28 : decode t_X2_add.2.1 28 = .ok (.aload_n 0, 1) := by decide +kernel
theorem dX2_add_29 : decode t_X2_add.2.1 29 = .ok (.getfield 19, 3) := by decide +kernel
theorem wd_271 : Cond.fieldLink RX2 19 "TurnedStones$Records" "streets" "[I" ∈ lw_gd := List.mem_filter.mpr ⟨List.mem_of_getElem? (i := 271) (by decide +kernel), by decide +kernel⟩
theorem gX2_add_29 : wm_gf t_X2_add 29 2 3 := ⟨_, _, _, 19, rfl, by decide, wd_271, dX2_add_29⟩
theorem dX2_add_32 : decode t_X2_add.2.1 32 = .ok (.aload_n 0, 1) := by decide +kernel
theorem dX2_add_33 : decode t_X2_add.2.1 33 = .ok (.getfield 9, 3) := by decide +kernel
theorem gX2_add_33 : wm_gf t_X2_add 33 2 0 := ⟨_, _, _, 9, rfl, by decide, wd_267, dX2_add_33⟩
theorem dX2_add_36 : decode t_X2_add.2.1 36 = .ok (.iload_n 2, 1) := by decide +kernel
theorem dX2_add_37 : decode t_X2_add.2.1 37 = .ok (.iastore, 1) := by decide +kernel
theorem dX2_add_38 : decode t_X2_add.2.1 38 = .ok (.aload_n 0, 1) := by decide +kernel
theorem dX2_add_39 : decode t_X2_add.2.1 39 = .ok (.getfield 22, 3) := by decide +kernel
theorem wd_272 : Cond.fieldLink RX2 22 "TurnedStones$Records" "ends" "[I" ∈ lw_gd := List.mem_filter.mpr ⟨List.mem_of_getElem? (i := 272) (by decide +kernel), by decide +kernel⟩
theorem gX2_add_39 : wm_gf t_X2_add 39 2 4 := ⟨_, _, _, 22, rfl, by decide, wd_272, dX2_add_39⟩
theorem dX2_add_42 : decode t_X2_add.2.1 42 = .ok (.aload_n 0, 1) := by decide +kernel
theorem dX2_add_43 : decode t_X2_add.2.1 43 = .ok (.getfield 9, 3) := by decide +kernel
theorem gX2_add_43 : wm_gf t_X2_add 43 2 0 := ⟨_, _, _, 9, rfl, by decide, wd_267, dX2_add_43⟩
theorem dX2_add_46 : decode t_X2_add.2.1 46 = .ok (.iload_n 3, 1) := by decide +kernel
theorem dX2_add_47 : decode t_X2_add.2.1 47 = .ok (.iastore, 1) := by decide +kernel
theorem dX2_add_48 : decode t_X2_add.2.1 48 = .ok (.aload_n 0, 1) := by decide +kernel
theorem dX2_add_49 : decode t_X2_add.2.1 49 = .ok (.getfield 30, 3) := by decide +kernel
theorem wd_273 : Cond.fieldLink RX2 30 "TurnedStones$Records" "words" "LTurnedStones$Table;" ∈ lw_gd := List.mem_filter.mpr ⟨List.mem_of_getElem? (i := 273) (by decide +kernel), by decide +kernel⟩
theorem gX2_add_49 : wm_gf t_X2_add 49 2 5 := ⟨_, _, _, 30, rfl, by decide, wd_273, dX2_add_49⟩
theorem dX2_add_52 : decode t_X2_add.2.1 52 = .ok (.aload_n 0, 1) := by decide +kernel
theorem dX2_add_53 : decode t_X2_add.2.1 53 = .ok (.getfield 9, 3) := by decide +kernel
theorem gX2_add_53 : wm_gf t_X2_add 53 2 0 := ⟨_, _, _, 9, rfl, by decide, wd_267, dX2_add_53⟩
theorem dX2_add_56 : decode t_X2_add.2.1 56 = .ok (.aload 4, 2) := by decide +kernel
theorem dX2_add_58 : decode t_X2_add.2.1 58 = .ok (.iload 5, 2) := by decide +kernel
theorem dX2_add_60 : decode t_X2_add.2.1 60 = .ok (.invokevirtual 38, 3) := by decide +kernel
theorem wd_937 : Cond.methodLink RX2 38 yX5_take ∈ lw_gd := List.mem_filter.mpr ⟨List.mem_of_getElem? (i := 937) (by decide +kernel), by decide +kernel⟩
theorem iX2_add_60 : wm_iv t_X2_add t_X5_take 60 := ⟨38, wd_937, dX2_add_60⟩
theorem dX2_add_63 : decode t_X2_add.2.1 63 = .ok (.aload_n 0, 1) := by decide +kernel
theorem dX2_add_64 : decode t_X2_add.2.1 64 = .ok (.dup, 1) := by decide +kernel
theorem dX2_add_65 : decode t_X2_add.2.1 65 = .ok (.getfield 9, 3) := by decide +kernel
theorem gX2_add_65 : wm_gf t_X2_add 65 2 0 := ⟨_, _, _, 9, rfl, by decide, wd_267, dX2_add_65⟩
theorem dX2_add_68 : decode t_X2_add.2.1 68 = .ok (.dup_x1, 1) := by decide +kernel
theorem dX2_add_69 : decode t_X2_add.2.1 69 = .ok (.iconst 1, 1) := by decide +kernel
theorem dX2_add_70 : decode t_X2_add.2.1 70 = .ok (.iadd, 1) := by decide +kernel
theorem dX2_add_71 : decode t_X2_add.2.1 71 = .ok (.putfield 9, 3) := by decide +kernel
theorem gX2_add_71 : wm_pf t_X2_add 71 2 0 .int := ⟨_, _, _, 9, rfl, by decide, wd_267, dX2_add_71, rfl, by decide +kernel⟩
theorem dX2_add_74 : decode t_X2_add.2.1 74 = .ok (.ireturn, 1) := by decide +kernel
theorem wd_556 : Cond.code yX2_dropFrom cX2_dropFrom 2 (none) ∈ lw_gd := List.mem_filter.mpr ⟨List.mem_of_getElem? (i := 556) (by decide +kernel), by decide +kernel⟩
theorem wd_554 : Cond.instanceMethod yX2_dropFrom ∈ lw_gd := List.mem_filter.mpr ⟨List.mem_of_getElem? (i := 554) (by decide +kernel), by decide +kernel⟩
theorem wd_555 : Cond.selects RX2 yX2_dropFrom yX2_dropFrom ∈ lw_gd := List.mem_filter.mpr ⟨List.mem_of_getElem? (i := 555) (by decide +kernel), by decide +kernel⟩
theorem vX2_dropFrom : wm_calV t_X2_dropFrom 1 := ⟨⟨wd_556, wd_85, by decide +kernel, by decide +kernel, by decide +kernel⟩, wd_554, wd_555⟩
theorem dX2_dropFrom_0 : decode t_X2_dropFrom.2.1 0 = .ok (.iload_n 1, 1) := by decide +kernel
theorem dX2_dropFrom_1 : decode t_X2_dropFrom.2.1 1 = .ok (.ifCond .lt 16, 3) := by decide +kernel
theorem dX2_dropFrom_4 : decode t_X2_dropFrom.2.1 4 = .ok (.iload_n 1, 1) := by decide +kernel
theorem dX2_dropFrom_5 : decode t_X2_dropFrom.2.1 5 = .ok (.aload_n 0, 1) := by decide +kernel
theorem dX2_dropFrom_6 : decode t_X2_dropFrom.2.1 6 = .ok (.getfield 9, 3) := by decide +kernel
theorem gX2_dropFrom_6 : wm_gf t_X2_dropFrom 6 2 0 := ⟨_, _, _, 9, rfl, by decide, wd_267, dX2_dropFrom_6⟩
theorem dX2_dropFrom_9 : decode t_X2_dropFrom.2.1 9 = .ok (.if_icmp .ge 8, 3) := by decide +kernel
theorem dX2_dropFrom_12 : decode t_X2_dropFrom.2.1 12 = .ok (.aload_n 0, 1) := by decide +kernel
theorem dX2_dropFrom_13 : decode t_X2_dropFrom.2.1 13 = .ok (.iload_n 1, 1) := by decide +kernel
theorem dX2_dropFrom_14 : decode t_X2_dropFrom.2.1 14 = .ok (.putfield 9, 3) := by decide +kernel
theorem gX2_dropFrom_14 : wm_pf t_X2_dropFrom 14 2 0 .int := ⟨_, _, _, 9, rfl, by decide, wd_267, dX2_dropFrom_14, rfl, by decide +kernel⟩
theorem dX2_dropFrom_17 : decode t_X2_dropFrom.2.1 17 = .ok (.return_, 1) := by decide +kernel
theorem wd_959 : Cond.code yX2_meetFitting cX2_meetFitting 4 (none) ∈ lw_gd := List.mem_filter.mpr ⟨List.mem_of_getElem? (i := 959) (by decide +kernel), by decide +kernel⟩
theorem wd_957 : Cond.instanceMethod yX2_meetFitting ∈ lw_gd := List.mem_filter.mpr ⟨List.mem_of_getElem? (i := 957) (by decide +kernel), by decide +kernel⟩
theorem wd_958 : Cond.selects RX2 yX2_meetFitting yX2_meetFitting ∈ lw_gd := List.mem_filter.mpr ⟨List.mem_of_getElem? (i := 958) (by decide +kernel), by decide +kernel⟩
theorem vX2_meetFitting : wm_calV t_X2_meetFitting 2 := ⟨⟨wd_959, wd_85, by decide +kernel, by decide +kernel, by decide +kernel⟩, wd_957, wd_958⟩
theorem dX2_meetFitting_0 : decode t_X2_meetFitting.2.1 0 = .ok (.iconst 0, 1) := by decide +kernel
theorem dX2_meetFitting_1 : decode t_X2_meetFitting.2.1 1 = .ok (.istore_n 3, 1) := by decide +kernel
theorem dX2_meetFitting_2 : decode t_X2_meetFitting.2.1 2 = .ok (.iload_n 3, 1) := by decide +kernel
theorem dX2_meetFitting_3 : decode t_X2_meetFitting.2.1 3 = .ok (.aload_n 0, 1) := by decide +kernel
theorem dX2_meetFitting_4 : decode t_X2_meetFitting.2.1 4 = .ok (.getfield 9, 3) := by decide +kernel
theorem gX2_meetFitting_4 : wm_gf t_X2_meetFitting 4 2 0 := ⟨_, _, _, 9, rfl, by decide, wd_267, dX2_meetFitting_4⟩
theorem dX2_meetFitting_7 : decode t_X2_meetFitting.2.1 7 = .ok (.if_icmp .ge 30, 3) := by decide +kernel
theorem dX2_meetFitting_10 : decode t_X2_meetFitting.2.1 10 = .ok (.iload_n 3, 1) := by decide +kernel
theorem dX2_meetFitting_11 : decode t_X2_meetFitting.2.1 11 = .ok (.iconst 4, 1) := by decide +kernel
theorem dX2_meetFitting_12 : decode t_X2_meetFitting.2.1 12 = .ok (.if_icmp .ge 25, 3) := by decide +kernel
theorem dX2_meetFitting_15 : decode t_X2_meetFitting.2.1 15 = .ok (.aload_n 0, 1) := by decide +kernel
theorem dX2_meetFitting_16 : decode t_X2_meetFitting.2.1 16 = .ok (.getfield 15, 3) := by decide +kernel
theorem gX2_meetFitting_16 : wm_gf t_X2_meetFitting 16 2 2 := ⟨_, _, _, 15, rfl, by decide, wd_270, dX2_meetFitting_16⟩
theorem dX2_meetFitting_19 : decode t_X2_meetFitting.2.1 19 = .ok (.iload_n 3, 1) := by decide +kernel
theorem dX2_meetFitting_20 : decode t_X2_meetFitting.2.1 20 = .ok (.iaload, 1) := by decide +kernel
theorem dX2_meetFitting_21 : decode t_X2_meetFitting.2.1 21 = .ok (.iload_n 1, 1) := by decide +kernel
theorem dX2_meetFitting_22 : decode t_X2_meetFitting.2.1 22 = .ok (.if_icmp .ne 9, 3) := by decide +kernel
theorem dX2_meetFitting_25 : decode t_X2_meetFitting.2.1 25 = .ok (.aload_n 0, 1) := by decide +kernel
theorem dX2_meetFitting_26 : decode t_X2_meetFitting.2.1 26 = .ok (.iload_n 3, 1) := by decide +kernel
theorem dX2_meetFitting_27 : decode t_X2_meetFitting.2.1 27 = .ok (.aload_n 2, 1) := by decide +kernel
theorem dX2_meetFitting_28 : decode t_X2_meetFitting.2.1 28 = .ok (.invokevirtual 42, 3) := by decide +kernel
theorem wd_960 : Cond.methodLink RX2 42 yX2_meetEngraving ∈ lw_gd := List.mem_filter.mpr ⟨List.mem_of_getElem? (i := 960) (by decide +kernel), by decide +kernel⟩
theorem iX2_meetFitting_28 : wm_iv t_X2_meetFitting t_X2_meetEngraving 28 := ⟨42, wd_960, dX2_meetFitting_28⟩
theorem dX2_meetFitting_31 : decode t_X2_meetFitting.2.1 31 = .ok (.iinc 3 1, 3) := by decide +kernel
theorem dX2_meetFitting_34 : decode t_X2_meetFitting.2.1 34 = .ok (.goto (-32), 3) := by decide +kernel
theorem dX2_meetFitting_37 : decode t_X2_meetFitting.2.1 37 = .ok (.return_, 1) := by decide +kernel
theorem wd_963 : Cond.code yX2_meetEngraving cX2_meetEngraving 6 (none) ∈ lw_gd := List.mem_filter.mpr ⟨List.mem_of_getElem? (i := 963) (by decide +kernel), by decide +kernel⟩
theorem wd_962 : Cond.instanceMethod yX2_meetEngraving ∈ lw_gd := List.mem_filter.mpr ⟨List.mem_of_getElem? (i := 962) (by decide +kernel), by decide +kernel⟩
theorem wd_27 : Cond.selects RX2 yX2_meetEngraving yX2_meetEngraving ∈ lw_gd := List.mem_filter.mpr ⟨List.mem_of_getElem? (i := 27) (by decide +kernel), by decide +kernel⟩
theorem vX2_meetEngraving : wm_calV t_X2_meetEngraving 2 := ⟨⟨wd_963, wd_85, by decide +kernel, by decide +kernel, by decide +kernel⟩, wd_962, wd_27⟩
theorem dX2_meetEngraving_0 : decode t_X2_meetEngraving.2.1 0 = .ok (.aload_n 0, 1) := by decide +kernel
theorem dX2_meetEngraving_1 : decode t_X2_meetEngraving.2.1 1 = .ok (.getfield 34, 3) := by decide +kernel
theorem wd_269 : Cond.fieldLink RX2 34 "TurnedStones$Records" "stones" "LTurnedStones$Stones;" ∈ lw_gd := List.mem_filter.mpr ⟨List.mem_of_getElem? (i := 269) (by decide +kernel), by decide +kernel⟩
theorem gX2_meetEngraving_1 : wm_gf t_X2_meetEngraving 1 2 1 := ⟨_, _, _, 34, rfl, by decide, wd_269, dX2_meetEngraving_1⟩
theorem dX2_meetEngraving_4 : decode t_X2_meetEngraving.2.1 4 = .ok (.aload_n 0, 1) := by decide +kernel
theorem dX2_meetEngraving_5 : decode t_X2_meetEngraving.2.1 5 = .ok (.getfield 19, 3) := by decide +kernel
theorem gX2_meetEngraving_5 : wm_gf t_X2_meetEngraving 5 2 3 := ⟨_, _, _, 19, rfl, by decide, wd_271, dX2_meetEngraving_5⟩
theorem dX2_meetEngraving_8 : decode t_X2_meetEngraving.2.1 8 = .ok (.iload_n 1, 1) := by decide +kernel
theorem dX2_meetEngraving_9 : decode t_X2_meetEngraving.2.1 9 = .ok (.iaload, 1) := by decide +kernel
theorem dX2_meetEngraving_10 : decode t_X2_meetEngraving.2.1 10 = .ok (.aload_n 0, 1) := by decide +kernel
theorem dX2_meetEngraving_11 : decode t_X2_meetEngraving.2.1 11 = .ok (.getfield 22, 3) := by decide +kernel
theorem gX2_meetEngraving_11 : wm_gf t_X2_meetEngraving 11 2 4 := ⟨_, _, _, 22, rfl, by decide, wd_272, dX2_meetEngraving_11⟩
theorem dX2_meetEngraving_14 : decode t_X2_meetEngraving.2.1 14 = .ok (.iload_n 1, 1) := by decide +kernel
theorem dX2_meetEngraving_15 : decode t_X2_meetEngraving.2.1 15 = .ok (.iaload, 1) := by decide +kernel
theorem dX2_meetEngraving_16 : decode t_X2_meetEngraving.2.1 16 = .ok (.invokevirtual 46, 3) := by decide +kernel
theorem wd_964 : Cond.methodLink RX2 46 yX4_firstSide ∈ lw_gd := List.mem_filter.mpr ⟨List.mem_of_getElem? (i := 964) (by decide +kernel), by decide +kernel⟩
theorem iX2_meetEngraving_16 : wm_iv t_X2_meetEngraving t_X4_firstSide 16 := ⟨46, wd_964, dX2_meetEngraving_16⟩
theorem dX2_meetEngraving_19 : decode t_X2_meetEngraving.2.1 19 = .ok (.istore_n 3, 1) := by decide +kernel
theorem dX2_meetEngraving_20 : decode t_X2_meetEngraving.2.1 20 = .ok (.iconst 0, 1) := by decide +kernel
theorem dX2_meetEngraving_21 : decode t_X2_meetEngraving.2.1 21 = .ok (.istore 4, 2) := by decide +kernel
theorem dX2_meetEngraving_23 : decode t_X2_meetEngraving.2.1 23 = .ok (.iload 4, 2) := by decide +kernel
theorem dX2_meetEngraving_25 : decode t_X2_meetEngraving.2.1 25 = .ok (.aload_n 0, 1) := by decide +kernel
theorem dX2_meetEngraving_26 : decode t_X2_meetEngraving.2.1 26 = .ok (.getfield 30, 3) := by decide +kernel
theorem gX2_meetEngraving_26 : wm_gf t_X2_meetEngraving 26 2 5 := ⟨_, _, _, 30, rfl, by decide, wd_273, dX2_meetEngraving_26⟩
theorem dX2_meetEngraving_29 : decode t_X2_meetEngraving.2.1 29 = .ok (.iload_n 1, 1) := by decide +kernel
theorem dX2_meetEngraving_30 : decode t_X2_meetEngraving.2.1 30 = .ok (.invokevirtual 52, 3) := by decide +kernel
theorem wd_965 : Cond.methodLink RX2 52 yX5_size ∈ lw_gd := List.mem_filter.mpr ⟨List.mem_of_getElem? (i := 965) (by decide +kernel), by decide +kernel⟩
theorem iX2_meetEngraving_30 : wm_iv t_X2_meetEngraving t_X5_size 30 := ⟨52, wd_965, dX2_meetEngraving_30⟩
theorem dX2_meetEngraving_33 : decode t_X2_meetEngraving.2.1 33 = .ok (.if_icmp .ge 59, 3) := by decide +kernel
theorem dX2_meetEngraving_36 : decode t_X2_meetEngraving.2.1 36 = .ok (.aload_n 0, 1) := by decide +kernel
theorem dX2_meetEngraving_37 : decode t_X2_meetEngraving.2.1 37 = .ok (.getfield 34, 3) := by decide +kernel
theorem gX2_meetEngraving_37 : wm_gf t_X2_meetEngraving 37 2 1 := ⟨_, _, _, 34, rfl, by decide, wd_269, dX2_meetEngraving_37⟩
theorem dX2_meetEngraving_40 : decode t_X2_meetEngraving.2.1 40 = .ok (.aload_n 0, 1) := by decide +kernel
theorem dX2_meetEngraving_41 : decode t_X2_meetEngraving.2.1 41 = .ok (.getfield 19, 3) := by decide +kernel
theorem gX2_meetEngraving_41 : wm_gf t_X2_meetEngraving 41 2 3 := ⟨_, _, _, 19, rfl, by decide, wd_271, dX2_meetEngraving_41⟩
theorem dX2_meetEngraving_44 : decode t_X2_meetEngraving.2.1 44 = .ok (.iload_n 1, 1) := by decide +kernel
theorem dX2_meetEngraving_45 : decode t_X2_meetEngraving.2.1 45 = .ok (.iaload, 1) := by decide +kernel
theorem dX2_meetEngraving_46 : decode t_X2_meetEngraving.2.1 46 = .ok (.aload_n 0, 1) := by decide +kernel
theorem dX2_meetEngraving_47 : decode t_X2_meetEngraving.2.1 47 = .ok (.getfield 22, 3) := by decide +kernel
theorem gX2_meetEngraving_47 : wm_gf t_X2_meetEngraving 47 2 4 := ⟨_, _, _, 22, rfl, by decide, wd_272, dX2_meetEngraving_47⟩
theorem dX2_meetEngraving_50 : decode t_X2_meetEngraving.2.1 50 = .ok (.iload_n 1, 1) := by decide +kernel
theorem dX2_meetEngraving_51 : decode t_X2_meetEngraving.2.1 51 = .ok (.iaload, 1) := by decide +kernel
theorem dX2_meetEngraving_52 : decode t_X2_meetEngraving.2.1 52 = .ok (.iload 4, 2) := by decide +kernel
theorem dX2_meetEngraving_54 : decode t_X2_meetEngraving.2.1 54 = .ok (.invokevirtual 56, 3) := by decide +kernel
theorem wd_966 : Cond.methodLink RX2 56 yX4_stoneAt ∈ lw_gd := List.mem_filter.mpr ⟨List.mem_of_getElem? (i := 966) (by decide +kernel), by decide +kernel⟩
theorem iX2_meetEngraving_54 : wm_iv t_X2_meetEngraving t_X4_stoneAt 54 := ⟨56, wd_966, dX2_meetEngraving_54⟩
theorem dX2_meetEngraving_57 : decode t_X2_meetEngraving.2.1 57 = .ok (.istore 5, 2) := by decide +kernel
theorem dX2_meetEngraving_59 : decode t_X2_meetEngraving.2.1 59 = .ok (.aload_n 2, 1) := by decide +kernel
theorem dX2_meetEngraving_60 : decode t_X2_meetEngraving.2.1 60 = .ok (.iload 5, 2) := by decide +kernel
theorem dX2_meetEngraving_62 : decode t_X2_meetEngraving.2.1 62 = .ok (.dup2, 1) := by decide +kernel
theorem dX2_meetEngraving_63 : decode t_X2_meetEngraving.2.1 63 = .ok (.iaload, 1) := by decide +kernel
theorem dX2_meetEngraving_64 : decode t_X2_meetEngraving.2.1 64 = .ok (.aload_n 0, 1) := by decide +kernel
theorem dX2_meetEngraving_65 : decode t_X2_meetEngraving.2.1 65 = .ok (.getfield 34, 3) := by decide +kernel
theorem gX2_meetEngraving_65 : wm_gf t_X2_meetEngraving 65 2 1 := ⟨_, _, _, 34, rfl, by decide, wd_269, dX2_meetEngraving_65⟩
theorem dX2_meetEngraving_68 : decode t_X2_meetEngraving.2.1 68 = .ok (.iload 5, 2) := by decide +kernel
theorem dX2_meetEngraving_70 : decode t_X2_meetEngraving.2.1 70 = .ok (.iload_n 3, 1) := by decide +kernel
theorem dX2_meetEngraving_71 : decode t_X2_meetEngraving.2.1 71 = .ok (.aload_n 0, 1) := by decide +kernel
theorem dX2_meetEngraving_72 : decode t_X2_meetEngraving.2.1 72 = .ok (.getfield 30, 3) := by decide +kernel
theorem gX2_meetEngraving_72 : wm_gf t_X2_meetEngraving 72 2 5 := ⟨_, _, _, 30, rfl, by decide, wd_273, dX2_meetEngraving_72⟩
theorem dX2_meetEngraving_75 : decode t_X2_meetEngraving.2.1 75 = .ok (.iload_n 1, 1) := by decide +kernel
theorem dX2_meetEngraving_76 : decode t_X2_meetEngraving.2.1 76 = .ok (.iload 4, 2) := by decide +kernel
theorem dX2_meetEngraving_78 : decode t_X2_meetEngraving.2.1 78 = .ok (.invokevirtual 60, 3) := by decide +kernel
theorem wd_967 : Cond.methodLink RX2 60 yX5_get ∈ lw_gd := List.mem_filter.mpr ⟨List.mem_of_getElem? (i := 967) (by decide +kernel), by decide +kernel⟩
theorem iX2_meetEngraving_78 : wm_iv t_X2_meetEngraving t_X5_get 78 := ⟨60, wd_967, dX2_meetEngraving_78⟩
theorem dX2_meetEngraving_81 : decode t_X2_meetEngraving.2.1 81 = .ok (.invokevirtual 63, 3) := by decide +kernel
theorem wd_968 : Cond.methodLink RX2 63 yX4_quartersShowing ∈ lw_gd := List.mem_filter.mpr ⟨List.mem_of_getElem? (i := 968) (by decide +kernel), by decide +kernel⟩
theorem iX2_meetEngraving_81 : wm_iv t_X2_meetEngraving t_X4_quartersShowing 81 := ⟨63, wd_968, dX2_meetEngraving_81⟩
theorem dX2_meetEngraving_84 : decode t_X2_meetEngraving.2.1 84 = .ok (.iand, 1) := by decide +kernel
theorem dX2_meetEngraving_85 : decode t_X2_meetEngraving.2.1 85 = .ok (.iastore, 1) := by decide +kernel
theorem dX2_meetEngraving_86 : decode t_X2_meetEngraving.2.1 86 = .ok (.iinc 4 1, 3) := by decide +kernel
theorem dX2_meetEngraving_89 : decode t_X2_meetEngraving.2.1 89 = .ok (.goto (-66), 3) := by decide +kernel
theorem dX2_meetEngraving_92 : decode t_X2_meetEngraving.2.1 92 = .ok (.return_, 1) := by decide +kernel
theorem wd_988 : Cond.code yX2_lastTold cX2_lastTold 4 (some .int) ∈ lw_gd := List.mem_filter.mpr ⟨List.mem_of_getElem? (i := 988) (by decide +kernel), by decide +kernel⟩
theorem wd_986 : Cond.instanceMethod yX2_lastTold ∈ lw_gd := List.mem_filter.mpr ⟨List.mem_of_getElem? (i := 986) (by decide +kernel), by decide +kernel⟩
theorem wd_987 : Cond.selects RX2 yX2_lastTold yX2_lastTold ∈ lw_gd := List.mem_filter.mpr ⟨List.mem_of_getElem? (i := 987) (by decide +kernel), by decide +kernel⟩
theorem vX2_lastTold : wm_calV t_X2_lastTold 1 := ⟨⟨wd_988, wd_85, by decide +kernel, by decide +kernel, by decide +kernel⟩, wd_986, wd_987⟩
theorem dX2_lastTold_0 : decode t_X2_lastTold.2.1 0 = .ok (.iconst 0, 1) := by decide +kernel
theorem dX2_lastTold_1 : decode t_X2_lastTold.2.1 1 = .ok (.istore_n 2, 1) := by decide +kernel
theorem dX2_lastTold_2 : decode t_X2_lastTold.2.1 2 = .ok (.iconst 0, 1) := by decide +kernel
theorem dX2_lastTold_3 : decode t_X2_lastTold.2.1 3 = .ok (.istore_n 3, 1) := by decide +kernel
theorem dX2_lastTold_4 : decode t_X2_lastTold.2.1 4 = .ok (.iload_n 3, 1) := by decide +kernel
theorem dX2_lastTold_5 : decode t_X2_lastTold.2.1 5 = .ok (.aload_n 0, 1) := by decide +kernel
theorem dX2_lastTold_6 : decode t_X2_lastTold.2.1 6 = .ok (.getfield 9, 3) := by decide +kernel
theorem gX2_lastTold_6 : wm_gf t_X2_lastTold 6 2 0 := ⟨_, _, _, 9, rfl, by decide, wd_267, dX2_lastTold_6⟩
theorem dX2_lastTold_9 : decode t_X2_lastTold.2.1 9 = .ok (.if_icmp .ge 35, 3) := by decide +kernel
theorem dX2_lastTold_12 : decode t_X2_lastTold.2.1 12 = .ok (.iload_n 3, 1) := by decide +kernel
theorem dX2_lastTold_13 : decode t_X2_lastTold.2.1 13 = .ok (.iconst 4, 1) := by decide +kernel
theorem dX2_lastTold_14 : decode t_X2_lastTold.2.1 14 = .ok (.if_icmp .ge 30, 3) := by decide +kernel
theorem dX2_lastTold_17 : decode t_X2_lastTold.2.1 17 = .ok (.aload_n 0, 1) := by decide +kernel
theorem dX2_lastTold_18 : decode t_X2_lastTold.2.1 18 = .ok (.getfield 15, 3) := by decide +kernel
theorem gX2_lastTold_18 : wm_gf t_X2_lastTold 18 2 2 := ⟨_, _, _, 15, rfl, by decide, wd_270, dX2_lastTold_18⟩
theorem dX2_lastTold_21 : decode t_X2_lastTold.2.1 21 = .ok (.iload_n 3, 1) := by decide +kernel
theorem dX2_lastTold_22 : decode t_X2_lastTold.2.1 22 = .ok (.iaload, 1) := by decide +kernel
theorem dX2_lastTold_23 : decode t_X2_lastTold.2.1 23 = .ok (.iload_n 1, 1) := by decide +kernel
theorem dX2_lastTold_24 : decode t_X2_lastTold.2.1 24 = .ok (.if_icmp .gt 14, 3) := by decide +kernel
theorem dX2_lastTold_27 : decode t_X2_lastTold.2.1 27 = .ok (.iload_n 2, 1) := by decide +kernel
theorem dX2_lastTold_28 : decode t_X2_lastTold.2.1 28 = .ok (.aload_n 0, 1) := by decide +kernel
theorem dX2_lastTold_29 : decode t_X2_lastTold.2.1 29 = .ok (.getfield 15, 3) := by decide +kernel
theorem gX2_lastTold_29 : wm_gf t_X2_lastTold 29 2 2 := ⟨_, _, _, 15, rfl, by decide, wd_270, dX2_lastTold_29⟩
theorem dX2_lastTold_32 : decode t_X2_lastTold.2.1 32 = .ok (.iload_n 3, 1) := by decide +kernel
theorem dX2_lastTold_33 : decode t_X2_lastTold.2.1 33 = .ok (.iaload, 1) := by decide +kernel
theorem dX2_lastTold_34 : decode t_X2_lastTold.2.1 34 = .ok (.invokestatic 66, 3) := by decide +kernel
theorem wd_989 : Cond.methodLink RX2 66 Lib.Math.max.name ∈ lw_gd := List.mem_filter.mpr ⟨List.mem_of_getElem? (i := 989) (by decide +kernel), by decide +kernel⟩
theorem iX2_lastTold_34 : wm_ij t_X2_lastTold Lib.Math.max.name 34 := ⟨66, wd_989, dX2_lastTold_34⟩
theorem dX2_lastTold_37 : decode t_X2_lastTold.2.1 37 = .ok (.istore_n 2, 1) := by decide +kernel
theorem dX2_lastTold_38 : decode t_X2_lastTold.2.1 38 = .ok (.iinc 3 1, 3) := by decide +kernel
theorem dX2_lastTold_41 : decode t_X2_lastTold.2.1 41 = .ok (.goto (-37), 3) := by decide +kernel
theorem dX2_lastTold_44 : decode t_X2_lastTold.2.1 44 = .ok (.iload_n 2, 1) := by decide +kernel
theorem dX2_lastTold_45 : decode t_X2_lastTold.2.1 45 = .ok (.ireturn, 1) := by decide +kernel
theorem wd_1104 : Cond.code yX2_fold cX2_fold 6 (some .long) ∈ lw_gd := List.mem_filter.mpr ⟨List.mem_of_getElem? (i := 1104) (by decide +kernel), by decide +kernel⟩
theorem wd_1102 : Cond.instanceMethod yX2_fold ∈ lw_gd := List.mem_filter.mpr ⟨List.mem_of_getElem? (i := 1102) (by decide +kernel), by decide +kernel⟩
theorem wd_1103 : Cond.selects RX2 yX2_fold yX2_fold ∈ lw_gd := List.mem_filter.mpr ⟨List.mem_of_getElem? (i := 1103) (by decide +kernel), by decide +kernel⟩
theorem vX2_fold : wm_calV t_X2_fold 1 := ⟨⟨wd_1104, wd_85, by decide +kernel, by decide +kernel, by decide +kernel⟩, wd_1102, wd_1103⟩
theorem dX2_fold_0 : decode t_X2_fold.2.1 0 = .ok (.lload_n 1, 1) := by decide +kernel
theorem dX2_fold_1 : decode t_X2_fold.2.1 1 = .ok (.lstore_n 3, 1) := by decide +kernel
theorem dX2_fold_2 : decode t_X2_fold.2.1 2 = .ok (.iconst 0, 1) := by decide +kernel
theorem dX2_fold_3 : decode t_X2_fold.2.1 3 = .ok (.istore 5, 2) := by decide +kernel
theorem dX2_fold_5 : decode t_X2_fold.2.1 5 = .ok (.iload 5, 2) := by decide +kernel
theorem dX2_fold_7 : decode t_X2_fold.2.1 7 = .ok (.aload_n 0, 1) := by decide +kernel
theorem dX2_fold_8 : decode t_X2_fold.2.1 8 = .ok (.getfield 9, 3) := by decide +kernel
theorem gX2_fold_8 : wm_gf t_X2_fold 8 2 0 := ⟨_, _, _, 9, rfl, by decide, wd_267, dX2_fold_8⟩
theorem dX2_fold_11 : decode t_X2_fold.2.1 11 = .ok (.if_icmp .ge 69, 3) := by decide +kernel
theorem dX2_fold_14 : decode t_X2_fold.2.1 14 = .ok (.iload 5, 2) := by decide +kernel
theorem dX2_fold_16 : decode t_X2_fold.2.1 16 = .ok (.iconst 4, 1) := by decide +kernel
theorem dX2_fold_17 : decode t_X2_fold.2.1 17 = .ok (.if_icmp .ge 63, 3) := by decide +kernel
theorem dX2_fold_20 : decode t_X2_fold.2.1 20 = .ok (.ldc2_w 71, 3) := by decide +kernel
theorem wd_1105 : Cond.constantLong RX2 71 (31) ∈ lw_gd := List.mem_filter.mpr ⟨List.mem_of_getElem? (i := 1105) (by decide +kernel), by decide +kernel⟩
theorem kX2_fold_20 : Cond.constantLong t_X2_fold.1.cls 71 (31) ∈ lw_gd := wd_1105
theorem dX2_fold_23 : decode t_X2_fold.2.1 23 = .ok (.lload_n 3, 1) := by decide +kernel
theorem dX2_fold_24 : decode t_X2_fold.2.1 24 = .ok (.lmul, 1) := by decide +kernel
theorem dX2_fold_25 : decode t_X2_fold.2.1 25 = .ok (.aload_n 0, 1) := by decide +kernel
theorem dX2_fold_26 : decode t_X2_fold.2.1 26 = .ok (.getfield 15, 3) := by decide +kernel
theorem gX2_fold_26 : wm_gf t_X2_fold 26 2 2 := ⟨_, _, _, 15, rfl, by decide, wd_270, dX2_fold_26⟩
theorem dX2_fold_29 : decode t_X2_fold.2.1 29 = .ok (.iload 5, 2) := by decide +kernel
theorem dX2_fold_31 : decode t_X2_fold.2.1 31 = .ok (.iaload, 1) := by decide +kernel
theorem dX2_fold_32 : decode t_X2_fold.2.1 32 = .ok (.i2l, 1) := by decide +kernel
theorem dX2_fold_33 : decode t_X2_fold.2.1 33 = .ok (.ladd, 1) := by decide +kernel
theorem dX2_fold_34 : decode t_X2_fold.2.1 34 = .ok (.lstore_n 3, 1) := by decide +kernel
theorem dX2_fold_35 : decode t_X2_fold.2.1 35 = .ok (.ldc2_w 71, 3) := by decide +kernel
theorem kX2_fold_35 : Cond.constantLong t_X2_fold.1.cls 71 (31) ∈ lw_gd := wd_1105
theorem dX2_fold_38 : decode t_X2_fold.2.1 38 = .ok (.lload_n 3, 1) := by decide +kernel
theorem dX2_fold_39 : decode t_X2_fold.2.1 39 = .ok (.lmul, 1) := by decide +kernel
theorem dX2_fold_40 : decode t_X2_fold.2.1 40 = .ok (.aload_n 0, 1) := by decide +kernel
theorem dX2_fold_41 : decode t_X2_fold.2.1 41 = .ok (.getfield 19, 3) := by decide +kernel
theorem gX2_fold_41 : wm_gf t_X2_fold 41 2 3 := ⟨_, _, _, 19, rfl, by decide, wd_271, dX2_fold_41⟩
theorem dX2_fold_44 : decode t_X2_fold.2.1 44 = .ok (.iload 5, 2) := by decide +kernel
theorem dX2_fold_46 : decode t_X2_fold.2.1 46 = .ok (.iaload, 1) := by decide +kernel
theorem dX2_fold_47 : decode t_X2_fold.2.1 47 = .ok (.i2l, 1) := by decide +kernel
theorem dX2_fold_48 : decode t_X2_fold.2.1 48 = .ok (.ladd, 1) := by decide +kernel
theorem dX2_fold_49 : decode t_X2_fold.2.1 49 = .ok (.lstore_n 3, 1) := by decide +kernel
theorem dX2_fold_50 : decode t_X2_fold.2.1 50 = .ok (.aload_n 0, 1) := by decide +kernel
theorem dX2_fold_51 : decode t_X2_fold.2.1 51 = .ok (.getfield 30, 3) := by decide +kernel
theorem gX2_fold_51 : wm_gf t_X2_fold 51 2 5 := ⟨_, _, _, 30, rfl, by decide, wd_273, dX2_fold_51⟩
theorem dX2_fold_54 : decode t_X2_fold.2.1 54 = .ok (.ldc2_w 71, 3) := by decide +kernel
theorem kX2_fold_54 : Cond.constantLong t_X2_fold.1.cls 71 (31) ∈ lw_gd := wd_1105
theorem dX2_fold_57 : decode t_X2_fold.2.1 57 = .ok (.lload_n 3, 1) := by decide +kernel
theorem dX2_fold_58 : decode t_X2_fold.2.1 58 = .ok (.lmul, 1) := by decide +kernel
theorem dX2_fold_59 : decode t_X2_fold.2.1 59 = .ok (.aload_n 0, 1) := by decide +kernel
theorem dX2_fold_60 : decode t_X2_fold.2.1 60 = .ok (.getfield 22, 3) := by decide +kernel
theorem gX2_fold_60 : wm_gf t_X2_fold 60 2 4 := ⟨_, _, _, 22, rfl, by decide, wd_272, dX2_fold_60⟩
theorem dX2_fold_63 : decode t_X2_fold.2.1 63 = .ok (.iload 5, 2) := by decide +kernel
theorem dX2_fold_65 : decode t_X2_fold.2.1 65 = .ok (.iaload, 1) := by decide +kernel
theorem dX2_fold_66 : decode t_X2_fold.2.1 66 = .ok (.i2l, 1) := by decide +kernel
theorem dX2_fold_67 : decode t_X2_fold.2.1 67 = .ok (.ladd, 1) := by decide +kernel
theorem dX2_fold_68 : decode t_X2_fold.2.1 68 = .ok (.iload 5, 2) := by decide +kernel
theorem dX2_fold_70 : decode t_X2_fold.2.1 70 = .ok (.invokevirtual 73, 3) := by decide +kernel
theorem wd_1106 : Cond.methodLink RX2 73 yX5_foldPlaces ∈ lw_gd := List.mem_filter.mpr ⟨List.mem_of_getElem? (i := 1106) (by decide +kernel), by decide +kernel⟩
theorem iX2_fold_70 : wm_iv t_X2_fold t_X5_foldPlaces 70 := ⟨73, wd_1106, dX2_fold_70⟩
theorem dX2_fold_73 : decode t_X2_fold.2.1 73 = .ok (.lstore_n 3, 1) := by decide +kernel
theorem dX2_fold_74 : decode t_X2_fold.2.1 74 = .ok (.iinc 5 1, 3) := by decide +kernel
theorem dX2_fold_77 : decode t_X2_fold.2.1 77 = .ok (.goto (-72), 3) := by decide +kernel
theorem dX2_fold_80 : decode t_X2_fold.2.1 80 = .ok (.lload_n 3, 1) := by decide +kernel
theorem dX2_fold_81 : decode t_X2_fold.2.1 81 = .ok (.lreturn, 1) := by decide +kernel
