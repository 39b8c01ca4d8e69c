theorem wd_660 : Cond.code yJ6_bitCount_0f7a4 cJ6_bitCount_0f7a4 1 (some .int) ∈ lw_gd := List.mem_filter.mpr ⟨List.mem_of_getElem? (i := 660) (by decide +kernel), by decide +kernel⟩
theorem wd_91 : Cond.initialized RJ6 ∈ lw_gd := List.mem_filter.mpr ⟨List.mem_of_getElem? (i := 91) (by decide +kernel), by decide +kernel⟩
theorem wd_659 : Cond.static yJ6_bitCount_0f7a4 ∈ lw_gd := List.mem_filter.mpr ⟨List.mem_of_getElem? (i := 659) (by decide +kernel), by decide +kernel⟩
theorem vJ6_bitCount_0f7a4 : wm_calS t_J6_bitCount_0f7a4 1 := ⟨⟨wd_660, wd_91, by decide +kernel, by decide +kernel, by decide +kernel⟩, wd_659⟩
theorem dJ6_bitCount_0f7a4_0 : decode t_J6_bitCount_0f7a4.2.1 0 = .ok (.iload_n 0, 1) := by decide +kernel
theorem dJ6_bitCount_0f7a4_1 : decode t_J6_bitCount_0f7a4.2.1 1 = .ok (.iload_n 0, 1) := by decide +kernel
theorem dJ6_bitCount_0f7a4_2 : decode t_J6_bitCount_0f7a4.2.1 2 = .ok (.iconst 1, 1) := by decide +kernel
theorem dJ6_bitCount_0f7a4_3 : decode t_J6_bitCount_0f7a4.2.1 3 = .ok (.iushr, 1) := by decide +kernel
theorem dJ6_bitCount_0f7a4_4 : decode t_J6_bitCount_0f7a4.2.1 4 = .ok (.ldc_w 265, 3) := by decide +kernel
theorem wd_661 : Cond.constant RJ6 265 (1431655765) ∈ lw_gd := List.mem_filter.mpr ⟨List.mem_of_getElem? (i := 661) (by decide +kernel), by decide +kernel⟩
theorem kJ6_bitCount_0f7a4_4 : Cond.constant t_J6_bitCount_0f7a4.1.cls 265 (1431655765) ∈ lw_gd := wd_661
theorem dJ6_bitCount_0f7a4_7 : decode t_J6_bitCount_0f7a4.2.1 7 = .ok (.iand, 1) := by decide +kernel
theorem dJ6_bitCount_0f7a4_8 : decode t_J6_bitCount_0f7a4.2.1 8 = .ok (.isub, 1) := by decide +kernel
theorem dJ6_bitCount_0f7a4_9 : decode t_J6_bitCount_0f7a4.2.1 9 = .ok (.istore_n 0, 1) := by decide +kernel
theorem dJ6_bitCount_0f7a4_10 : decode t_J6_bitCount_0f7a4.2.1 10 = .ok (.iload_n 0, 1) := by decide +kernel
theorem dJ6_bitCount_0f7a4_11 : decode t_J6_bitCount_0f7a4.2.1 11 = .ok (.ldc_w 266, 3) := by decide +kernel
theorem wd_662 : Cond.constant RJ6 266 (858993459) ∈ lw_gd := List.mem_filter.mpr ⟨List.mem_of_getElem? (i := 662) (by decide +kernel), by decide +kernel⟩
theorem kJ6_bitCount_0f7a4_11 : Cond.constant t_J6_bitCount_0f7a4.1.cls 266 (858993459) ∈ lw_gd := wd_662
theorem dJ6_bitCount_0f7a4_14 : decode t_J6_bitCount_0f7a4.2.1 14 = .ok (.iand, 1) := by decide +kernel
theorem dJ6_bitCount_0f7a4_15 : decode t_J6_bitCount_0f7a4.2.1 15 = .ok (.iload_n 0, 1) := by decide +kernel
theorem dJ6_bitCount_0f7a4_16 : decode t_J6_bitCount_0f7a4.2.1 16 = .ok (.iconst 2, 1) := by decide +kernel
theorem dJ6_bitCount_0f7a4_17 : decode t_J6_bitCount_0f7a4.2.1 17 = .ok (.iushr, 1) := by decide +kernel
theorem dJ6_bitCount_0f7a4_18 : decode t_J6_bitCount_0f7a4.2.1 18 = .ok (.ldc_w 266, 3) := by decide +kernel
theorem kJ6_bitCount_0f7a4_18 : Cond.constant t_J6_bitCount_0f7a4.1.cls 266 (858993459) ∈ lw_gd := wd_662
theorem dJ6_bitCount_0f7a4_21 : decode t_J6_bitCount_0f7a4.2.1 21 = .ok (.iand, 1) := by decide +kernel
theorem dJ6_bitCount_0f7a4_22 : decode t_J6_bitCount_0f7a4.2.1 22 = .ok (.iadd, 1) := by decide +kernel
theorem dJ6_bitCount_0f7a4_23 : decode t_J6_bitCount_0f7a4.2.1 23 = .ok (.istore_n 0, 1) := by decide +kernel
theorem dJ6_bitCount_0f7a4_24 : decode t_J6_bitCount_0f7a4.2.1 24 = .ok (.iload_n 0, 1) := by decide +kernel
theorem dJ6_bitCount_0f7a4_25 : decode t_J6_bitCount_0f7a4.2.1 25 = .ok (.iload_n 0, 1) := by decide +kernel
theorem dJ6_bitCount_0f7a4_26 : decode t_J6_bitCount_0f7a4.2.1 26 = .ok (.iconst 4, 1) := by decide +kernel
theorem dJ6_bitCount_0f7a4_27 : decode t_J6_bitCount_0f7a4.2.1 27 = .ok (.iushr, 1) := by decide +kernel
theorem dJ6_bitCount_0f7a4_28 : decode t_J6_bitCount_0f7a4.2.1 28 = .ok (.iadd, 1) := by decide +kernel
theorem dJ6_bitCount_0f7a4_29 : decode t_J6_bitCount_0f7a4.2.1 29 = .ok (.ldc_w 267, 3) := by decide +kernel
theorem wd_663 : Cond.constant RJ6 267 (252645135) ∈ lw_gd := List.mem_filter.mpr ⟨List.mem_of_getElem? (i := 663) (by decide +kernel), by decide +kernel⟩
theorem kJ6_bitCount_0f7a4_29 : Cond.constant t_J6_bitCount_0f7a4.1.cls 267 (252645135) ∈ lw_gd := wd_663
theorem dJ6_bitCount_0f7a4_32 : decode t_J6_bitCount_0f7a4.2.1 32 = .ok (.iand, 1) := by decide +kernel
theorem dJ6_bitCount_0f7a4_33 : decode t_J6_bitCount_0f7a4.2.1 33 = .ok (.istore_n 0, 1) := by decide +kernel
theorem dJ6_bitCount_0f7a4_34 : decode t_J6_bitCount_0f7a4.2.1 34 = .ok (.iload_n 0, 1) := by decide +kernel
theorem dJ6_bitCount_0f7a4_35 : decode t_J6_bitCount_0f7a4.2.1 35 = .ok (.iload_n 0, 1) := by decide +kernel
theorem dJ6_bitCount_0f7a4_36 : decode t_J6_bitCount_0f7a4.2.1 36 = .ok (.bipush 8, 2) := by decide +kernel
theorem dJ6_bitCount_0f7a4_38 : decode t_J6_bitCount_0f7a4.2.1 38 = .ok (.iushr, 1) := by decide +kernel
theorem dJ6_bitCount_0f7a4_39 : decode t_J6_bitCount_0f7a4.2.1 39 = .ok (.iadd, 1) := by decide +kernel
theorem dJ6_bitCount_0f7a4_40 : decode t_J6_bitCount_0f7a4.2.1 40 = .ok (.istore_n 0, 1) := by decide +kernel
theorem dJ6_bitCount_0f7a4_41 : decode t_J6_bitCount_0f7a4.2.1 41 = .ok (.iload_n 0, 1) := by decide +kernel
theorem dJ6_bitCount_0f7a4_42 : decode t_J6_bitCount_0f7a4.2.1 42 = .ok (.iload_n 0, 1) := by decide +kernel
theorem dJ6_bitCount_0f7a4_43 : decode t_J6_bitCount_0f7a4.2.1 43 = .ok (.bipush 16, 2) := by decide +kernel
theorem dJ6_bitCount_0f7a4_45 : decode t_J6_bitCount_0f7a4.2.1 45 = .ok (.iushr, 1) := by decide +kernel
theorem dJ6_bitCount_0f7a4_46 : decode t_J6_bitCount_0f7a4.2.1 46 = .ok (.iadd, 1) := by decide +kernel
theorem dJ6_bitCount_0f7a4_47 : decode t_J6_bitCount_0f7a4.2.1 47 = .ok (.istore_n 0, 1) := by decide +kernel
theorem dJ6_bitCount_0f7a4_48 : decode t_J6_bitCount_0f7a4.2.1 48 = .ok (.iload_n 0, 1) := by decide +kernel
theorem dJ6_bitCount_0f7a4_49 : decode t_J6_bitCount_0f7a4.2.1 49 = .ok (.bipush 63, 2) := by decide +kernel
theorem dJ6_bitCount_0f7a4_51 : decode t_J6_bitCount_0f7a4.2.1 51 = .ok (.iand, 1) := by decide +kernel
theorem dJ6_bitCount_0f7a4_52 : decode t_J6_bitCount_0f7a4.2.1 52 = .ok (.ireturn, 1) := by decide +kernel
theorem wd_826 : Cond.code yJ13_bitCount_95d88 cJ13_bitCount_95d88 2 (some .int) ∈ lw_gd := List.mem_filter.mpr ⟨List.mem_of_getElem? (i := 826) (by decide +kernel), by decide +kernel⟩
theorem wd_92 : Cond.initialized RJ13 ∈ lw_gd := List.mem_filter.mpr ⟨List.mem_of_getElem? (i := 92) (by decide +kernel), by decide +kernel⟩
theorem wd_825 : Cond.static yJ13_bitCount_95d88 ∈ lw_gd := List.mem_filter.mpr ⟨List.mem_of_getElem? (i := 825) (by decide +kernel), by decide +kernel⟩
theorem vJ13_bitCount_95d88 : wm_calS t_J13_bitCount_95d88 1 := ⟨⟨wd_826, wd_92, by decide +kernel, by decide +kernel, by decide +kernel⟩, wd_825⟩
theorem dJ13_bitCount_95d88_0 : decode t_J13_bitCount_95d88.2.1 0 = .ok (.lload_n 0, 1) := by decide +kernel
theorem dJ13_bitCount_95d88_1 : decode t_J13_bitCount_95d88.2.1 1 = .ok (.lload_n 0, 1) := by decide +kernel
theorem dJ13_bitCount_95d88_2 : decode t_J13_bitCount_95d88.2.1 2 = .ok (.iconst 1, 1) := by decide +kernel
theorem dJ13_bitCount_95d88_3 : decode t_J13_bitCount_95d88.2.1 3 = .ok (.lushr, 1) := by decide +kernel
theorem dJ13_bitCount_95d88_4 : decode t_J13_bitCount_95d88.2.1 4 = .ok (.ldc2_w 314, 3) := by decide +kernel
theorem wd_827 : Cond.constantLong RJ13 314 (6148914691236517205) ∈ lw_gd := List.mem_filter.mpr ⟨List.mem_of_getElem? (i := 827) (by decide +kernel), by decide +kernel⟩
theorem kJ13_bitCount_95d88_4 : Cond.constantLong t_J13_bitCount_95d88.1.cls 314 (6148914691236517205) ∈ lw_gd := wd_827
theorem dJ13_bitCount_95d88_7 : decode t_J13_bitCount_95d88.2.1 7 = .ok (.land, 1) := by decide +kernel
theorem dJ13_bitCount_95d88_8 : decode t_J13_bitCount_95d88.2.1 8 = .ok (.lsub, 1) := by decide +kernel
theorem dJ13_bitCount_95d88_9 : decode t_J13_bitCount_95d88.2.1 9 = .ok (.lstore_n 0, 1) := by decide +kernel
theorem dJ13_bitCount_95d88_10 : decode t_J13_bitCount_95d88.2.1 10 = .ok (.lload_n 0, 1) := by decide +kernel
theorem dJ13_bitCount_95d88_11 : decode t_J13_bitCount_95d88.2.1 11 = .ok (.ldc2_w 316, 3) := by decide +kernel
theorem wd_828 : Cond.constantLong RJ13 316 (3689348814741910323) ∈ lw_gd := List.mem_filter.mpr ⟨List.mem_of_getElem? (i := 828) (by decide +kernel), by decide +kernel⟩
theorem kJ13_bitCount_95d88_11 : Cond.constantLong t_J13_bitCount_95d88.1.cls 316 (3689348814741910323) ∈ lw_gd := wd_828
theorem dJ13_bitCount_95d88_14 : decode t_J13_bitCount_95d88.2.1 14 = .ok (.land, 1) := by decide +kernel
theorem dJ13_bitCount_95d88_15 : decode t_J13_bitCount_95d88.2.1 15 = .ok (.lload_n 0, 1) := by decide +kernel
theorem dJ13_bitCount_95d88_16 : decode t_J13_bitCount_95d88.2.1 16 = .ok (.iconst 2, 1) := by decide +kernel
theorem dJ13_bitCount_95d88_17 : decode t_J13_bitCount_95d88.2.1 17 = .ok (.lushr, 1) := by decide +kernel
theorem dJ13_bitCount_95d88_18 : decode t_J13_bitCount_95d88.2.1 18 = .ok (.ldc2_w 316, 3) := by decide +kernel
theorem kJ13_bitCount_95d88_18 : Cond.constantLong t_J13_bitCount_95d88.1.cls 316 (3689348814741910323) ∈ lw_gd := wd_828
theorem dJ13_bitCount_95d88_21 : decode t_J13_bitCount_95d88.2.1 21 = .ok (.land, 1) := by decide +kernel
theorem dJ13_bitCount_95d88_22 : decode t_J13_bitCount_95d88.2.1 22 = .ok (.ladd, 1) := by decide +kernel
theorem dJ13_bitCount_95d88_23 : decode t_J13_bitCount_95d88.2.1 23 = .ok (.lstore_n 0, 1) := by decide +kernel
theorem dJ13_bitCount_95d88_24 : decode t_J13_bitCount_95d88.2.1 24 = .ok (.lload_n 0, 1) := by decide +kernel
theorem dJ13_bitCount_95d88_25 : decode t_J13_bitCount_95d88.2.1 25 = .ok (.lload_n 0, 1) := by decide +kernel
theorem dJ13_bitCount_95d88_26 : decode t_J13_bitCount_95d88.2.1 26 = .ok (.iconst 4, 1) := by decide +kernel
theorem dJ13_bitCount_95d88_27 : decode t_J13_bitCount_95d88.2.1 27 = .ok (.lushr, 1) := by decide +kernel
theorem dJ13_bitCount_95d88_28 : decode t_J13_bitCount_95d88.2.1 28 = .ok (.ladd, 1) := by decide +kernel
theorem dJ13_bitCount_95d88_29 : decode t_J13_bitCount_95d88.2.1 29 = .ok (.ldc2_w 318, 3) := by decide +kernel
theorem wd_829 : Cond.constantLong RJ13 318 (1085102592571150095) ∈ lw_gd := List.mem_filter.mpr ⟨List.mem_of_getElem? (i := 829) (by decide +kernel), by decide +kernel⟩
theorem kJ13_bitCount_95d88_29 : Cond.constantLong t_J13_bitCount_95d88.1.cls 318 (1085102592571150095) ∈ lw_gd := wd_829
theorem dJ13_bitCount_95d88_32 : decode t_J13_bitCount_95d88.2.1 32 = .ok (.land, 1) := by decide +kernel
theorem dJ13_bitCount_95d88_33 : decode t_J13_bitCount_95d88.2.1 33 = .ok (.lstore_n 0, 1) := by decide +kernel
theorem dJ13_bitCount_95d88_34 : decode t_J13_bitCount_95d88.2.1 34 = .ok (.lload_n 0, 1) := by decide +kernel
theorem dJ13_bitCount_95d88_35 : decode t_J13_bitCount_95d88.2.1 35 = .ok (.lload_n 0, 1) := by decide +kernel
theorem dJ13_bitCount_95d88_36 : decode t_J13_bitCount_95d88.2.1 36 = .ok (.bipush 8, 2) := by decide +kernel
theorem dJ13_bitCount_95d88_38 : decode t_J13_bitCount_95d88.2.1 38 = .ok (.lushr, 1) := by decide +kernel
theorem dJ13_bitCount_95d88_39 : decode t_J13_bitCount_95d88.2.1 39 = .ok (.ladd, 1) := by decide +kernel
theorem dJ13_bitCount_95d88_40 : decode t_J13_bitCount_95d88.2.1 40 = .ok (.lstore_n 0, 1) := by decide +kernel
theorem dJ13_bitCount_95d88_41 : decode t_J13_bitCount_95d88.2.1 41 = .ok (.lload_n 0, 1) := by decide +kernel
theorem dJ13_bitCount_95d88_42 : decode t_J13_bitCount_95d88.2.1 42 = .ok (.lload_n 0, 1) := by decide +kernel
theorem dJ13_bitCount_95d88_43 : decode t_J13_bitCount_95d88.2.1 43 = .ok (.bipush 16, 2) := by decide +kernel
theorem dJ13_bitCount_95d88_45 : decode t_J13_bitCount_95d88.2.1 45 = .ok (.lushr, 1) := by decide +kernel
theorem dJ13_bitCount_95d88_46 : decode t_J13_bitCount_95d88.2.1 46 = .ok (.ladd, 1) := by decide +kernel
theorem dJ13_bitCount_95d88_47 : decode t_J13_bitCount_95d88.2.1 47 = .ok (.lstore_n 0, 1) := by decide +kernel
theorem dJ13_bitCount_95d88_48 : decode t_J13_bitCount_95d88.2.1 48 = .ok (.lload_n 0, 1) := by decide +kernel
theorem dJ13_bitCount_95d88_49 : decode t_J13_bitCount_95d88.2.1 49 = .ok (.lload_n 0, 1) := by decide +kernel
theorem dJ13_bitCount_95d88_50 : decode t_J13_bitCount_95d88.2.1 50 = .ok (.bipush 32, 2) := by decide +kernel
theorem dJ13_bitCount_95d88_52 : decode t_J13_bitCount_95d88.2.1 52 = .ok (.lushr, 1) := by decide +kernel
theorem dJ13_bitCount_95d88_53 : decode t_J13_bitCount_95d88.2.1 53 = .ok (.ladd, 1) := by decide +kernel
theorem dJ13_bitCount_95d88_54 : decode t_J13_bitCount_95d88.2.1 54 = .ok (.lstore_n 0, 1) := by decide +kernel
theorem dJ13_bitCount_95d88_55 : decode t_J13_bitCount_95d88.2.1 55 = .ok (.lload_n 0, 1) := by decide +kernel
theorem dJ13_bitCount_95d88_56 : decode t_J13_bitCount_95d88.2.1 56 = .ok (.l2i, 1) := by decide +kernel
theorem dJ13_bitCount_95d88_57 : decode t_J13_bitCount_95d88.2.1 57 = .ok (.bipush 127, 2) := by decide +kernel
theorem dJ13_bitCount_95d88_59 : decode t_J13_bitCount_95d88.2.1 59 = .ok (.iand, 1) := by decide +kernel
theorem dJ13_bitCount_95d88_60 : decode t_J13_bitCount_95d88.2.1 60 = .ok (.ireturn, 1) := by decide +kernel
theorem wd_419 : Cond.code yJ7_rangeCheck_23922 cJ7_rangeCheck_23922 3 (none) ∈ lw_gd := List.mem_filter.mpr ⟨List.mem_of_getElem? (i := 419) (by decide +kernel), by decide +kernel⟩
theorem wd_79 : Cond.initialized RJ7 ∈ lw_gd := List.mem_filter.mpr ⟨List.mem_of_getElem? (i := 79) (by decide +kernel), by decide +kernel⟩
theorem wd_418 : Cond.static yJ7_rangeCheck_23922 ∈ lw_gd := List.mem_filter.mpr ⟨List.mem_of_getElem? (i := 418) (by decide +kernel), by decide +kernel⟩
theorem vJ7_rangeCheck_23922 : wm_calS t_J7_rangeCheck_23922 3 := ⟨⟨wd_419, wd_79, by decide +kernel, by decide +kernel, by decide +kernel⟩, wd_418⟩
theorem dJ7_rangeCheck_23922_0 : decode t_J7_rangeCheck_23922.2.1 0 = .ok (.iload_n 1, 1) := by decide +kernel
theorem dJ7_rangeCheck_23922_1 : decode t_J7_rangeCheck_23922.2.1 1 = .ok (.iload_n 2, 1) := by decide +kernel
theorem dJ7_rangeCheck_23922_2 : decode t_J7_rangeCheck_23922.2.1 2 = .ok (.if_icmp .le 44, 3) := by decide +kernel
theorem dJ7_rangeCheck_23922_5 : decode t_J7_rangeCheck_23922.2.1 5 = .ok (.new 43, 3) := by decide +kernel
theorem dJ7_rangeCheck_23922_8 : decode t_J7_rangeCheck_23922.2.1 8 = .ok (.dup, 1) := by decide +kernel
theorem dJ7_rangeCheck_23922_9 : decode t_J7_rangeCheck_23922.2.1 9 = .ok (.new 45, 3) := by decide +kernel
theorem dJ7_rangeCheck_23922_12 : decode t_J7_rangeCheck_23922.2.1 12 = .ok (.dup, 1) := by decide +kernel
theorem dJ7_rangeCheck_23922_13 : decode t_J7_rangeCheck_23922.2.1 13 = .ok (.invokespecial 47, 3) := by decide +kernel
theorem dJ7_rangeCheck_23922_16 : decode t_J7_rangeCheck_23922.2.1 16 = .ok (.ldc 48, 2) := by decide +kernel
theorem dJ7_rangeCheck_23922_18 : decode t_J7_rangeCheck_23922.2.1 18 = .ok (.invokevirtual 50, 3) := by decide +kernel
theorem dJ7_rangeCheck_23922_21 : decode t_J7_rangeCheck_23922.2.1 21 = .ok (.iload_n 1, 1) := by decide +kernel
theorem dJ7_rangeCheck_23922_22 : decode t_J7_rangeCheck_23922.2.1 22 = .ok (.invokevirtual 54, 3) := by decide +kernel
theorem dJ7_rangeCheck_23922_25 : decode t_J7_rangeCheck_23922.2.1 25 = .ok (.ldc 57, 2) := by decide +kernel
theorem dJ7_rangeCheck_23922_27 : decode t_J7_rangeCheck_23922.2.1 27 = .ok (.invokevirtual 50, 3) := by decide +kernel
theorem dJ7_rangeCheck_23922_30 : decode t_J7_rangeCheck_23922.2.1 30 = .ok (.iload_n 2, 1) := by decide +kernel
theorem dJ7_rangeCheck_23922_31 : decode t_J7_rangeCheck_23922.2.1 31 = .ok (.invokevirtual 54, 3) := by decide +kernel
theorem dJ7_rangeCheck_23922_34 : decode t_J7_rangeCheck_23922.2.1 34 = .ok (.ldc 59, 2) := by decide +kernel
theorem dJ7_rangeCheck_23922_36 : decode t_J7_rangeCheck_23922.2.1 36 = .ok (.invokevirtual 50, 3) := by decide +kernel
theorem dJ7_rangeCheck_23922_39 : decode t_J7_rangeCheck_23922.2.1 39 = .ok (.invokevirtual 61, 3) := by decide +kernel
theorem dJ7_rangeCheck_23922_42 : decode t_J7_rangeCheck_23922.2.1 42 = .ok (.invokespecial 65, 3) := by decide +kernel
theorem dJ7_rangeCheck_23922_45 : decode t_J7_rangeCheck_23922.2.1 45 = .ok (.athrow, 1) := by decide +kernel
theorem dJ7_rangeCheck_23922_46 : decode t_J7_rangeCheck_23922.2.1 46 = .ok (.iload_n 1, 1) := by decide +kernel
theorem dJ7_rangeCheck_23922_47 : decode t_J7_rangeCheck_23922.2.1 47 = .ok (.ifCond .ge 12, 3) := by decide +kernel
theorem dJ7_rangeCheck_23922_50 : decode t_J7_rangeCheck_23922.2.1 50 = .ok (.new 68, 3) := by decide +kernel
theorem dJ7_rangeCheck_23922_53 : decode t_J7_rangeCheck_23922.2.1 53 = .ok (.dup, 1) := by decide +kernel
theorem dJ7_rangeCheck_23922_54 : decode t_J7_rangeCheck_23922.2.1 54 = .ok (.iload_n 1, 1) := by decide +kernel
theorem dJ7_rangeCheck_23922_55 : decode t_J7_rangeCheck_23922.2.1 55 = .ok (.invokespecial 70, 3) := by decide +kernel
theorem dJ7_rangeCheck_23922_58 : decode t_J7_rangeCheck_23922.2.1 58 = .ok (.athrow, 1) := by decide +kernel
theorem dJ7_rangeCheck_23922_59 : decode t_J7_rangeCheck_23922.2.1 59 = .ok (.iload_n 2, 1) := by decide +kernel
theorem dJ7_rangeCheck_23922_60 : decode t_J7_rangeCheck_23922.2.1 60 = .ok (.iload_n 0, 1) := by decide +kernel
theorem dJ7_rangeCheck_23922_61 : decode t_J7_rangeCheck_23922.2.1 61 = .ok (.if_icmp .le 12, 3) := by decide +kernel
theorem dJ7_rangeCheck_23922_64 : decode t_J7_rangeCheck_23922.2.1 64 = .ok (.new 68, 3) := by decide +kernel
theorem dJ7_rangeCheck_23922_67 : decode t_J7_rangeCheck_23922.2.1 67 = .ok (.dup, 1) := by decide +kernel
theorem dJ7_rangeCheck_23922_68 : decode t_J7_rangeCheck_23922.2.1 68 = .ok (.iload_n 2, 1) := by decide +kernel
theorem dJ7_rangeCheck_23922_69 : decode t_J7_rangeCheck_23922.2.1 69 = .ok (.invokespecial 70, 3) := by decide +kernel
theorem dJ7_rangeCheck_23922_72 : decode t_J7_rangeCheck_23922.2.1 72 = .ok (.athrow, 1) := by decide +kernel
theorem dJ7_rangeCheck_23922_73 : decode t_J7_rangeCheck_23922.2.1 73 = .ok (.return_, 1) := by decide +kernel
theorem wd_571 : Cond.code yJ7_fill_d0a16 cJ7_fill_d0a16 5 (none) ∈ lw_gd := List.mem_filter.mpr ⟨List.mem_of_getElem? (i := 571) (by decide +kernel), by decide +kernel⟩
theorem wd_570 : Cond.static yJ7_fill_d0a16 ∈ lw_gd := List.mem_filter.mpr ⟨List.mem_of_getElem? (i := 570) (by decide +kernel), by decide +kernel⟩
theorem vJ7_fill_d0a16 : wm_calS t_J7_fill_d0a16 2 := ⟨⟨wd_571, wd_79, by decide +kernel, by decide +kernel, by decide +kernel⟩, wd_570⟩
theorem dJ7_fill_d0a16_0 : decode t_J7_fill_d0a16.2.1 0 = .ok (.iconst 0, 1) := by decide +kernel
theorem dJ7_fill_d0a16_1 : decode t_J7_fill_d0a16.2.1 1 = .ok (.istore_n 3, 1) := by decide +kernel
theorem dJ7_fill_d0a16_2 : decode t_J7_fill_d0a16.2.1 2 = .ok (.aload_n 0, 1) := by decide +kernel
theorem dJ7_fill_d0a16_3 : decode t_J7_fill_d0a16.2.1 3 = .ok (.arraylength, 1) := by decide +kernel
theorem dJ7_fill_d0a16_4 : decode t_J7_fill_d0a16.2.1 4 = .ok (.istore 4, 2) := by decide +kernel
theorem dJ7_fill_d0a16_6 : decode t_J7_fill_d0a16.2.1 6 = .ok (.iload_n 3, 1) := by decide +kernel
theorem dJ7_fill_d0a16_7 : decode t_J7_fill_d0a16.2.1 7 = .ok (.iload 4, 2) := by decide +kernel
theorem dJ7_fill_d0a16_9 : decode t_J7_fill_d0a16.2.1 9 = .ok (.if_icmp .ge 13, 3) := by decide +kernel
theorem dJ7_fill_d0a16_12 : decode t_J7_fill_d0a16.2.1 12 = .ok (.aload_n 0, 1) := by decide +kernel
theorem dJ7_fill_d0a16_13 : decode t_J7_fill_d0a16.2.1 13 = .ok (.iload_n 3, 1) := by decide +kernel
theorem dJ7_fill_d0a16_14 : decode t_J7_fill_d0a16.2.1 14 = .ok (.lload_n 1, 1) := by decide +kernel
theorem dJ7_fill_d0a16_15 : decode t_J7_fill_d0a16.2.1 15 = .ok (.lastore, 1) := by decide +kernel
theorem dJ7_fill_d0a16_16 : decode t_J7_fill_d0a16.2.1 16 = .ok (.iinc 3 1, 3) := by decide +kernel
theorem dJ7_fill_d0a16_19 : decode t_J7_fill_d0a16.2.1 19 = .ok (.goto (-13), 3) := by decide +kernel
theorem dJ7_fill_d0a16_22 : decode t_J7_fill_d0a16.2.1 22 = .ok (.return_, 1) := by decide +kernel
theorem wd_111 : Cond.code yJ7_fill_53178 cJ7_fill_53178 4 (none) ∈ lw_gd := List.mem_filter.mpr ⟨List.mem_of_getElem? (i := 111) (by decide +kernel), by decide +kernel⟩
theorem wd_110 : Cond.static yJ7_fill_53178 ∈ lw_gd := List.mem_filter.mpr ⟨List.mem_of_getElem? (i := 110) (by decide +kernel), by decide +kernel⟩
theorem vJ7_fill_53178 : wm_calS t_J7_fill_53178 2 := ⟨⟨wd_111, wd_79, by decide +kernel, by decide +kernel, by decide +kernel⟩, wd_110⟩
theorem dJ7_fill_53178_0 : decode t_J7_fill_53178.2.1 0 = .ok (.iconst 0, 1) := by decide +kernel
theorem dJ7_fill_53178_1 : decode t_J7_fill_53178.2.1 1 = .ok (.istore_n 2, 1) := by decide +kernel
theorem dJ7_fill_53178_2 : decode t_J7_fill_53178.2.1 2 = .ok (.aload_n 0, 1) := by decide +kernel
theorem dJ7_fill_53178_3 : decode t_J7_fill_53178.2.1 3 = .ok (.arraylength, 1) := by decide +kernel
theorem dJ7_fill_53178_4 : decode t_J7_fill_53178.2.1 4 = .ok (.istore_n 3, 1) := by decide +kernel
theorem dJ7_fill_53178_5 : decode t_J7_fill_53178.2.1 5 = .ok (.iload_n 2, 1) := by decide +kernel
theorem dJ7_fill_53178_6 : decode t_J7_fill_53178.2.1 6 = .ok (.iload_n 3, 1) := by decide +kernel
theorem dJ7_fill_53178_7 : decode t_J7_fill_53178.2.1 7 = .ok (.if_icmp .ge 13, 3) := by decide +kernel
theorem dJ7_fill_53178_10 : decode t_J7_fill_53178.2.1 10 = .ok (.aload_n 0, 1) := by decide +kernel
theorem dJ7_fill_53178_11 : decode t_J7_fill_53178.2.1 11 = .ok (.iload_n 2, 1) := by decide +kernel
theorem dJ7_fill_53178_12 : decode t_J7_fill_53178.2.1 12 = .ok (.iload_n 1, 1) := by decide +kernel
theorem dJ7_fill_53178_13 : decode t_J7_fill_53178.2.1 13 = .ok (.iastore, 1) := by decide +kernel
theorem dJ7_fill_53178_14 : decode t_J7_fill_53178.2.1 14 = .ok (.iinc 2 1, 3) := by decide +kernel
theorem dJ7_fill_53178_17 : decode t_J7_fill_53178.2.1 17 = .ok (.goto (-12), 3) := by decide +kernel
theorem dJ7_fill_53178_20 : decode t_J7_fill_53178.2.1 20 = .ok (.return_, 1) := by decide +kernel
theorem wd_416 : Cond.code yJ7_fill_fda19 cJ7_fill_fda19 5 (none) ∈ lw_gd := List.mem_filter.mpr ⟨List.mem_of_getElem? (i := 416) (by decide +kernel), by decide +kernel⟩
theorem wd_415 : Cond.static yJ7_fill_fda19 ∈ lw_gd := List.mem_filter.mpr ⟨List.mem_of_getElem? (i := 415) (by decide +kernel), by decide +kernel⟩
theorem vJ7_fill_fda19 : wm_calS t_J7_fill_fda19 4 := ⟨⟨wd_416, wd_79, by decide +kernel, by decide +kernel, by decide +kernel⟩, wd_415⟩
theorem dJ7_fill_fda19_0 : decode t_J7_fill_fda19.2.1 0 = .ok (.aload_n 0, 1) := by decide +kernel
theorem dJ7_fill_fda19_1 : decode t_J7_fill_fda19.2.1 1 = .ok (.arraylength, 1) := by decide +kernel
theorem dJ7_fill_fda19_2 : decode t_J7_fill_fda19.2.1 2 = .ok (.iload_n 1, 1) := by decide +kernel
theorem dJ7_fill_fda19_3 : decode t_J7_fill_fda19.2.1 3 = .ok (.iload_n 2, 1) := by decide +kernel
theorem dJ7_fill_fda19_4 : decode t_J7_fill_fda19.2.1 4 = .ok (.invokestatic 13, 3) := by decide +kernel
theorem wd_417 : Cond.methodLink RJ7 13 yJ7_rangeCheck_23922 ∈ lw_gd := List.mem_filter.mpr ⟨List.mem_of_getElem? (i := 417) (by decide +kernel), by decide +kernel⟩
theorem iJ7_fill_fda19_4 : wm_is t_J7_fill_fda19 t_J7_rangeCheck_23922 4 := ⟨13, wd_417, dJ7_fill_fda19_4⟩
theorem dJ7_fill_fda19_7 : decode t_J7_fill_fda19.2.1 7 = .ok (.iload_n 1, 1) := by decide +kernel
theorem dJ7_fill_fda19_8 : decode t_J7_fill_fda19.2.1 8 = .ok (.istore 4, 2) := by decide +kernel
theorem dJ7_fill_fda19_10 : decode t_J7_fill_fda19.2.1 10 = .ok (.iload 4, 2) := by decide +kernel
theorem dJ7_fill_fda19_12 : decode t_J7_fill_fda19.2.1 12 = .ok (.iload_n 2, 1) := by decide +kernel
theorem dJ7_fill_fda19_13 : decode t_J7_fill_fda19.2.1 13 = .ok (.if_icmp .ge 14, 3) := by decide +kernel
theorem dJ7_fill_fda19_16 : decode t_J7_fill_fda19.2.1 16 = .ok (.aload_n 0, 1) := by decide +kernel
theorem dJ7_fill_fda19_17 : decode t_J7_fill_fda19.2.1 17 = .ok (.iload 4, 2) := by decide +kernel
theorem dJ7_fill_fda19_19 : decode t_J7_fill_fda19.2.1 19 = .ok (.iload_n 3, 1) := by decide +kernel
theorem dJ7_fill_fda19_20 : decode t_J7_fill_fda19.2.1 20 = .ok (.iastore, 1) := by decide +kernel
theorem dJ7_fill_fda19_21 : decode t_J7_fill_fda19.2.1 21 = .ok (.iinc 4 1, 3) := by decide +kernel
theorem dJ7_fill_fda19_24 : decode t_J7_fill_fda19.2.1 24 = .ok (.goto (-14), 3) := by decide +kernel
theorem dJ7_fill_fda19_27 : decode t_J7_fill_fda19.2.1 27 = .ok (.return_, 1) := by decide +kernel
