theorem x_isStone {G : wm_G} {M : wm_M} (C : wm_M) (w h : Nat) (hX : xStn C M w h) (hW : TW C w h) (k : Int32) : MD G t_X10_isStone [wm_r G (96), .int (k)] (M) (some (.int (wB (wIn k (w * h))))) (M) := by
  obtain ⟨x10, x11, x12, x103, x104, x105, x106⟩ := id hX
  have hn6 := TW_n hW
  have hw3 := hW.2.2.1
  have hh2 := hW.2.2.2
  refine wm_met (by decide) (Nat.le_of_ble_eq_true rfl) ?_
  show WA G t_X10_isStone (fun v_ N_ => v_ = some (.int (wB (wIn k (w * h)))) ∧ N_ = M) 0 [(0, wm_r G (96)), (1, .int (k))] [] (M)
  refine wa_iload_n dX10_isStone_0 rfl 1 rfl ?_
  refine wa_iconst (0) dX10_isStone_1 (by decide) ?_
  refine wa_aload_n dX10_isStone_2 rfl 0 rfl ?_
  refine wa_geti gX10_isStone_3 (rfl) rfl ?_
  refine wa_eqi (y := (nI (w * h))) (x12) ?_
  refine wa_iconst (1) dX10_isStone_6 (by decide) ?_
  refine wa_isub dX10_isStone_7 ?_
  refine wa_cSi (x_in k 0 (nI (w * h) - 1)) vX10_in iX10_isStone_8 rfl rfl (Nat.le_of_ble_eq_true rfl) ⟨by decide, by decide⟩ ?_
  refine wa_eqi (y := (wB (wIn k (w * h)))) (congrArg wB (inC_z (by omega))) ?_
  exact wa_zretB dX10_isStone_11 rfl ⟨congrArg (fun z => some (Value.int z)) (rfl), rfl⟩

theorem x_isFixed {G : wm_G} {M : wm_M} (C : wm_M) (w h : Nat) (hX : xStn C M w h) (hW : TW C w h) (k : Nat) (hk : k < w * h) : MD G t_X10_isFixed [wm_r G (96), .int (nI (k))] (M) (some (.int (wB (sFix (C.1 18 k))))) (M) := by
  obtain ⟨x10, x11, x12, x103, x104, x105, x106⟩ := id hX
  have hn6 := TW_n hW
  have hw3 := hW.2.2.1
  have hh2 := hW.2.2.2
  refine wm_met (by decide) (Nat.le_of_ble_eq_true rfl) ?_
  show WA G t_X10_isFixed (fun v_ N_ => v_ = some (.int (wB (sFix (C.1 18 k)))) ∧ N_ = M) 0 [(0, wm_r G (96)), (1, .int (nI (k)))] [] (M)
  refine wa_aload_n dX10_isFixed_0 rfl 0 rfl ?_
  refine wa_getr gX10_isFixed_1 (rfl) rfl ?_
  refine wa_iload_n dX10_isFixed_4 rfl 1 rfl ?_
  refine wa_ialdN (e := k) dX10_isFixed_5 (rfl) (by omega) (by decide) ?_
  refine wa_eqi (y := (C.1 18 (k))) (x103 _ (by omega)) ?_
  refine wa_iconst (2) dX10_isFixed_6 (by decide) ?_
  refine wa_icmp_eq 20 dX10_isFixed_7 (by decide) (fun c_7 => ?_) (fun c_7 => ?_)
  · refine wa_iconst (1) dX10_isFixed_20 (by decide) ?_
    refine wa_goto 25 dX10_isFixed_21 (by decide) ?_
    exact wa_zret dX10_isFixed_25 rfl (by decide) ⟨congrArg (fun z => some (Value.int z)) (by unfold sFix; first | (rw [decide_eq_true c_7]; rfl) | (rw [decide_eq_false c_7, decide_eq_false c_17]; rfl) | (rw [decide_eq_false c_7, decide_eq_true c_17]; rfl)), rfl⟩
  · refine wa_aload_n dX10_isFixed_10 rfl 0 rfl ?_
    refine wa_getr gX10_isFixed_11 (rfl) rfl ?_
    refine wa_iload_n dX10_isFixed_14 rfl 1 rfl ?_
    refine wa_ialdN (e := k) dX10_isFixed_15 (rfl) (by omega) (by decide) ?_
    refine wa_eqi (y := (C.1 18 (k))) (x103 _ (by omega)) ?_
    refine wa_iconst (5) dX10_isFixed_16 (by decide) ?_
    refine wa_icmp_ne 24 dX10_isFixed_17 (by decide) (fun c_17 => ?_) (fun c_17 => ?_)
    · refine wa_iconst (0) dX10_isFixed_24 (by decide) ?_
      exact wa_zret dX10_isFixed_25 rfl (by decide) ⟨congrArg (fun z => some (Value.int z)) (by unfold sFix; first | (rw [decide_eq_true c_7]; rfl) | (rw [decide_eq_false c_7, decide_eq_false c_17]; rfl) | (rw [decide_eq_false c_7, decide_eq_true c_17]; rfl)), rfl⟩
    · refine wa_iconst (1) dX10_isFixed_20 (by decide) ?_
      refine wa_goto 25 dX10_isFixed_21 (by decide) ?_
      exact wa_zret dX10_isFixed_25 rfl (by decide) ⟨congrArg (fun z => some (Value.int z)) (by unfold sFix; first | (rw [decide_eq_true c_7]; rfl) | (rw [decide_eq_false c_7, decide_eq_false c_17]; rfl) | (rw [decide_eq_false c_7, decide_eq_true c_17]; rfl)), rfl⟩

theorem x_stepOf {G : wm_G} {M : wm_M} (C : wm_M) (w h : Nat) (hX : xStn C M w h) (hW : TW C w h) (k : Nat) (hk : k < w * h) : MD G t_X10_stepOf [wm_r G (96), .int (nI (k))] (M) (some (.int (nI (if C.1 18 k = 3 then 2 else 1)))) (M) := by
  obtain ⟨x10, x11, x12, x103, x104, x105, x106⟩ := id hX
  have hn6 := TW_n hW
  have hw3 := hW.2.2.1
  have hh2 := hW.2.2.2
  refine wm_met (by decide) (Nat.le_of_ble_eq_true rfl) ?_
  show WA G t_X10_stepOf (fun v_ N_ => v_ = some (.int (nI (if C.1 18 k = 3 then 2 else 1))) ∧ N_ = M) 0 [(0, wm_r G (96)), (1, .int (nI (k)))] [] (M)
  refine wa_aload_n dX10_stepOf_0 rfl 0 rfl ?_
  refine wa_getr gX10_stepOf_1 (rfl) rfl ?_
  refine wa_iload_n dX10_stepOf_4 rfl 1 rfl ?_
  refine wa_ialdN (e := k) dX10_stepOf_5 (rfl) (by omega) (by decide) ?_
  refine wa_eqi (y := (C.1 18 (k))) (x103 _ (by omega)) ?_
  refine wa_iconst (3) dX10_stepOf_6 (by decide) ?_
  refine wa_icmp_ne 14 dX10_stepOf_7 (by decide) (fun c_7 => ?_) (fun c_7 => ?_)
  · refine wa_iconst (1) dX10_stepOf_14 (by decide) ?_
    exact wa_iret dX10_stepOf_15 rfl ⟨congrArg (fun z => some (Value.int z)) (by first | (rw [if_pos c_7]; rfl) | (rw [if_neg c_7]; rfl)), rfl⟩
  · refine wa_iconst (2) dX10_stepOf_10 (by decide) ?_
    refine wa_goto 15 dX10_stepOf_11 (by decide) ?_
    exact wa_iret dX10_stepOf_15 rfl ⟨congrArg (fun z => some (Value.int z)) (by first | (rw [if_pos c_7]; rfl) | (rw [if_neg c_7]; rfl)), rfl⟩

theorem x_stTl {G : wm_G} {M : wm_M} (C : wm_M) (w h : Nat) (hX : xStn C M w h) (hW : TW C w h) (s : Nat) (hQ : ∀ k, k < w * h → M.1 107 k = nI (sQ s k)) (k : Nat) (hk : k < w * h) (what : Nat) (h6 : what < 6) : MD G t_X10_stoneTells [wm_r G (96), .int (nI (k)), .int (nI (what))] (M) (some (.int (stTl C s k what))) (M) := by
  obtain ⟨x10, x11, x12, x103, x104, x105, x106⟩ := id hX
  have hn6 := TW_n hW
  have hw3 := hW.2.2.1
  have hh2 := hW.2.2.2
  refine wm_met (by decide) (Nat.le_of_ble_eq_true rfl) ?_
  show WA G t_X10_stoneTells (fun v_ N_ => v_ = some (.int (stTl C s k what)) ∧ N_ = M) 0 [(0, wm_r G (96)), (1, .int (nI (k))), (2, .int (nI (what)))] [] (M)
  refine wa_iload_n dX10_stoneTells_0 rfl 2 rfl ?_
  refine wa_if_neN (a := what) 13 dX10_stoneTells_1 (by decide) (by omega) (fun c_1 => ?_) (fun c_1 => ?_)
  · refine wa_iload_n dX10_stoneTells_13 rfl 2 rfl ?_
    refine wa_iconst (1) dX10_stoneTells_14 (by decide) ?_
    refine wa_icmp_neN (a := what) (b := 1) 27 dX10_stoneTells_15 (by decide) (by omega) (by omega) (fun c_15 => ?_) (fun c_15 => ?_)
    · refine wa_aload_n dX10_stoneTells_27 rfl 0 rfl ?_
      refine wa_getr gX10_stoneTells_28 (rfl) rfl ?_
      refine wa_iconst (4) dX10_stoneTells_31 (by decide) ?_
      refine wa_iload_n dX10_stoneTells_32 rfl 1 rfl ?_
      refine wa_imulN (a := 4) (b := k) dX10_stoneTells_33 ?_
      refine wa_iload_n dX10_stoneTells_34 rfl 2 rfl ?_
      refine wa_iaddN (a := 4 * k) (b := what) dX10_stoneTells_35 ?_
      refine wa_iconst (2) dX10_stoneTells_36 (by decide) ?_
      refine wa_isubN (a := 4 * k + what) (b := 2) dX10_stoneTells_37 (by omega) ?_
      refine wa_ialdN (e := (4 * k + what) - (2)) dX10_stoneTells_38 (rfl) (by omega) (by decide) ?_
      refine wa_eqi (y := (C.1 19 (4 * k + what - 2))) (x104 _ (by omega)) ?_
      exact wa_iret dX10_stoneTells_39 rfl ⟨congrArg (fun z => some (Value.int z)) (by unfold stTl; first | (rw [if_pos c_1]; done) | (rw [if_neg c_1, if_pos c_15]; done) | (rw [if_neg c_1, if_neg c_15]; done)), rfl⟩
    · refine wa_aload_n dX10_stoneTells_18 rfl 0 rfl ?_
      refine wa_getr gX10_stoneTells_19 (rfl) rfl ?_
      refine wa_iload_n dX10_stoneTells_22 rfl 1 rfl ?_
      refine wa_ialdN (e := k) dX10_stoneTells_23 (rfl) (by omega) (by decide) ?_
      refine wa_eqi (y := (nI (sQ s k))) (hQ k hk) ?_
      refine wa_goto 39 dX10_stoneTells_24 (by decide) ?_
      exact wa_iret dX10_stoneTells_39 rfl ⟨congrArg (fun z => some (Value.int z)) (by unfold stTl; first | (rw [if_pos c_1]; done) | (rw [if_neg c_1, if_pos c_15]; done) | (rw [if_neg c_1, if_neg c_15]; done)), rfl⟩
  · refine wa_aload_n dX10_stoneTells_4 rfl 0 rfl ?_
    refine wa_getr gX10_stoneTells_5 (rfl) rfl ?_
    refine wa_iload_n dX10_stoneTells_8 rfl 1 rfl ?_
    refine wa_ialdN (e := k) dX10_stoneTells_9 (rfl) (by omega) (by decide) ?_
    refine wa_eqi (y := (C.1 18 (k))) (x103 _ (by omega)) ?_
    refine wa_goto 39 dX10_stoneTells_10 (by decide) ?_
    exact wa_iret dX10_stoneTells_39 rfl ⟨congrArg (fun z => some (Value.int z)) (by unfold stTl; first | (rw [if_pos c_1]; done) | (rw [if_neg c_1, if_pos c_15]; done) | (rw [if_neg c_1, if_neg c_15]; done)), rfl⟩

theorem x_stone_bad1 {G : wm_G} {M : wm_M} (C : wm_M) (w h : Nat) (hX : xStn C M w h) (hW : TW C w h) (k : Int32) (hk : wIn k (w * h) = false) (what : Int32) : MD G t_X10_stone [wm_r G (96), .int (k), .int (what)] (M) (some (.int (-1))) (M) := by
  refine wm_met (by decide) (Nat.le_of_ble_eq_true rfl) ?_
  show WA G t_X10_stone (fun v_ N_ => v_ = some (.int (-1)) ∧ N_ = M) 0 [(0, wm_r G (96)), (1, .int (k)), (2, .int (what))] [] (M)
  refine wa_aload_n dX10_stone_0 rfl 0 rfl ?_
  refine wa_iload_n dX10_stone_1 rfl 1 rfl ?_
  refine wa_cVi (x_isStone C w h hX hW k) vX10_isStone iX10_stone_2 (rfl) rfl rfl rfl (Nat.le_of_ble_eq_true rfl) ⟨by decide, by decide⟩ ?_
  refine wa_eqi (y := (0)) (by rw [hk]; rfl) ?_
  refine wa_if_eq 31 dX10_stone_5 (by decide) (fun c_5 => ?_) (fun c_5 => absurd c_5 (by decide))
  refine wa_iconst (-1) dX10_stone_31 (by decide) ?_
  exact wa_iret dX10_stone_32 rfl ⟨congrArg (fun z => some (Value.int z)) (rfl), rfl⟩

theorem x_stone_bad2 {G : wm_G} {M : wm_M} (C : wm_M) (w h : Nat) (hX : xStn C M w h) (hW : TW C w h) (k : Nat) (hk : k < w * h) (what : Int32) (hw : wIn what 6 = false) : MD G t_X10_stone [wm_r G (96), .int (nI (k)), .int (what)] (M) (some (.int (-1))) (M) := by
  obtain ⟨x10, x11, x12, x103, x104, x105, x106⟩ := id hX
  have hn6 := TW_n hW
  have hw3 := hW.2.2.1
  have hh2 := hW.2.2.2
  refine wm_met (by decide) (Nat.le_of_ble_eq_true rfl) ?_
  show WA G t_X10_stone (fun v_ N_ => v_ = some (.int (-1)) ∧ N_ = M) 0 [(0, wm_r G (96)), (1, .int (nI (k))), (2, .int (what))] [] (M)
  refine wa_aload_n dX10_stone_0 rfl 0 rfl ?_
  refine wa_iload_n dX10_stone_1 rfl 1 rfl ?_
  refine wa_cVi (x_isStone C w h hX hW (nI k)) vX10_isStone iX10_stone_2 (rfl) rfl rfl rfl (Nat.le_of_ble_eq_true rfl) ⟨by decide, by decide⟩ ?_
  refine wa_eqi (y := (1)) (by rw [wIn_nI (by omega), decide_eq_true hk]; rfl) ?_
  refine wa_if_eq 31 dX10_stone_5 (by decide) (fun c_5 => absurd c_5 (by decide)) (fun c_5 => ?_)
  refine wa_iload_n dX10_stone_8 rfl 2 rfl ?_
  refine wa_iconst (0) dX10_stone_9 (by decide) ?_
  refine wa_iconst (5) dX10_stone_10 (by decide) ?_
  refine wa_cSi (x_in what 0 5) vX10_in iX10_stone_11 rfl rfl (Nat.le_of_ble_eq_true rfl) ⟨by decide, by decide⟩ ?_
  refine wa_eqi (y := (0)) (by rw [show inC what 0 5 = wIn what 6 from inC_w (m := 5) (by decide) what, hw]; rfl) ?_
  refine wa_if_eq 31 dX10_stone_14 (by decide) (fun c_14 => ?_) (fun c_14 => absurd c_14 (by decide))
  refine wa_iconst (-1) dX10_stone_31 (by decide) ?_
  exact wa_iret dX10_stone_32 rfl ⟨congrArg (fun z => some (Value.int z)) (rfl), rfl⟩

theorem x_stone_ok {G : wm_G} {M : wm_M} (C : wm_M) (w h : Nat) (hX : xStn C M w h) (hW : TW C w h) (s : Nat) (hQ : ∀ k, k < w * h → M.1 107 k = nI (sQ s k)) (k : Nat) (hk : k < w * h) (what : Nat) (hw : what < 6) : MD G t_X10_stone [wm_r G (96), .int (nI (k)), .int (nI (what))] (M) (some (.int (1))) (xTell M (stTl C s k what)) := by
  obtain ⟨x10, x11, x12, x103, x104, x105, x106⟩ := id hX
  have hn6 := TW_n hW
  have hw3 := hW.2.2.1
  have hh2 := hW.2.2.2
  refine wm_met (by decide) (Nat.le_of_ble_eq_true rfl) ?_
  show WA G t_X10_stone (fun v_ N_ => v_ = some (.int (1)) ∧ N_ = xTell M (stTl C s k what)) 0 [(0, wm_r G (96)), (1, .int (nI (k))), (2, .int (nI (what)))] [] (M)
  refine wa_aload_n dX10_stone_0 rfl 0 rfl ?_
  refine wa_iload_n dX10_stone_1 rfl 1 rfl ?_
  refine wa_cVi (x_isStone C w h hX hW (nI k)) vX10_isStone iX10_stone_2 (rfl) rfl rfl rfl (Nat.le_of_ble_eq_true rfl) ⟨by decide, by decide⟩ ?_
  refine wa_eqi (y := (1)) (by rw [wIn_nI (by omega), decide_eq_true hk]; rfl) ?_
  refine wa_if_eq 31 dX10_stone_5 (by decide) (fun c_5 => absurd c_5 (by decide)) (fun c_5 => ?_)
  refine wa_iload_n dX10_stone_8 rfl 2 rfl ?_
  refine wa_iconst (0) dX10_stone_9 (by decide) ?_
  refine wa_iconst (5) dX10_stone_10 (by decide) ?_
  refine wa_cSi (x_in (nI what) 0 5) vX10_in iX10_stone_11 rfl rfl (Nat.le_of_ble_eq_true rfl) ⟨by decide, by decide⟩ ?_
  refine wa_eqi (y := (1)) (by rw [show inC (nI what) 0 5 = wIn (nI what) 6 from inC_w (m := 5) (by decide) _, wIn_nI (by omega), decide_eq_true hw]; rfl) ?_
  refine wa_if_eq 31 dX10_stone_14 (by decide) (fun c_14 => absurd c_14 (by decide)) (fun c_14 => ?_)
  refine wa_aload_n dX10_stone_17 rfl 0 rfl ?_
  refine wa_aload_n dX10_stone_18 rfl 0 rfl ?_
  refine wa_iload_n dX10_stone_19 rfl 1 rfl ?_
  refine wa_iload_n dX10_stone_20 rfl 2 rfl ?_
  refine wa_cVi (x_stTl C w h hX hW s hQ k hk what hw) vX10_stoneTells iX10_stone_21 (rfl) rfl rfl rfl (Nat.le_of_ble_eq_true rfl) ⟨by decide, by decide⟩ ?_
  refine wa_iconst (1) dX10_stone_24 (by decide) ?_
  refine wa_cVi (x_tells (stTl C s k what) (1)) vX10_tells iX10_stone_25 (rfl) rfl rfl rfl (Nat.le_of_ble_eq_true rfl) ⟨by decide, by decide⟩ ?_
  refine wa_goto 32 dX10_stone_28 (by decide) ?_
  exact wa_iret dX10_stone_32 rfl ⟨congrArg (fun z => some (Value.int z)) (rfl), rfl⟩

theorem x_unlike {G : wm_G} {M : wm_M} (C : wm_M) (w h : Nat) (hX : xStn C M w h) (hW : TW C w h) (k : Nat) (hk : k < w * h) (sb : Nat) (hsb : sb < 16) (hwn : ∀ i, i < 4 → sb.testBit i = true → ∃ x, x < 8 ∧ C.1 19 (4 * k + i) = nI x) : MD G t_X10_unlike [wm_r G (96), .int (nI (k)), .int (nI (sb))] (M) (some (.int (nI (pcN (sSeen (fun side => decide (nI sb >>> (nI side &&& 31) &&& 1 = 1) && !decide (C.1 19 (4 * k + side) = -1)) (fun side => (C.1 19 (4 * k + side)).toNatClampNeg) 4))))) (M) := by
  obtain ⟨x10, x11, x12, x103, x104, x105, x106⟩ := id hX
  have hn6 := TW_n hW
  have hw3 := hW.2.2.1
  have hh2 := hW.2.2.2
  refine wm_met (by decide) (Nat.le_of_ble_eq_true rfl) ?_
  show WA G t_X10_unlike (fun v_ N_ => v_ = some (.int (nI (pcN (sSeen (fun side => decide (nI sb >>> (nI side &&& 31) &&& 1 = 1) && !decide (C.1 19 (4 * k + side) = -1)) (fun side => (C.1 19 (4 * k + side)).toNatClampNeg) 4)))) ∧ N_ = M) 0 [(0, wm_r G (96)), (1, .int (nI (k))), (2, .int (nI (sb)))] [] (M)
  refine wa_iconst (0) dX10_unlike_0 (by decide) ?_
  refine wa_eqi (y := (nI (sSeen (fun side => decide (nI sb >>> (nI side &&& 31) &&& 1 = 1) && !decide (C.1 19 (4 * k + side) = -1)) (fun side => (C.1 19 (4 * k + side)).toNatClampNeg) 0))) (rfl) ?_
  refine wa_istore_n [(3, .int (nI (sSeen (fun side => decide (nI sb >>> (nI side &&& 31) &&& 1 = 1) && !decide (C.1 19 (4 * k + side) = -1)) (fun side => (C.1 19 (4 * k + side)).toNatClampNeg) 0))), (0, wm_r G (96)), (1, .int (nI (k))), (2, .int (nI (sb)))] dX10_unlike_1 rfl (by decide) rfl ?_
  refine wa_iconst (0) dX10_unlike_2 (by decide) ?_
  refine wa_istore [(4, .int (0)), (3, .int (nI (sSeen (fun side => decide (nI sb >>> (nI side &&& 31) &&& 1 = 1) && !decide (C.1 19 (4 * k + side) = -1)) (fun side => (C.1 19 (4 * k + side)).toNatClampNeg) 0))), (0, wm_r G (96)), (1, .int (nI (k))), (2, .int (nI (sb)))] dX10_unlike_3 (by decide) rfl ?_
  have L_5 : ∀ (n_ : Nat) (side : Nat), (4 - side) < n_ → (side ≤ 4) → WA G t_X10_unlike (fun v_ N_ => v_ = some (.int (nI (pcN (sSeen (fun side => decide (nI sb >>> (nI side &&& 31) &&& 1 = 1) && !decide (C.1 19 (4 * k + side) = -1)) (fun side => (C.1 19 (4 * k + side)).toNatClampNeg) 4)))) ∧ N_ = M) 5 [(4, .int (nI (side))), (3, .int (nI (sSeen (fun side => decide (nI sb >>> (nI side &&& 31) &&& 1 = 1) && !decide (C.1 19 (4 * k + side) = -1)) (fun side => (C.1 19 (4 * k + side)).toNatClampNeg) side))), (0, wm_r G (96)), (1, .int (nI (k))), (2, .int (nI (sb)))] [] (M) := by
    intro n_
    induction n_ with
    | zero => intro side h_; exact absurd h_ (Nat.not_lt_zero _)
    | succ n_ ih_5 =>
      intro side h_ hsd
      refine wa_iload dX10_unlike_5 0 rfl ?_
      refine wa_iconst (4) dX10_unlike_7 (by decide) ?_
      refine wa_icmp_geN (a := side) (b := 4) 46 dX10_unlike_8 (by decide) (by omega) (by omega) (fun c_8 => ?_) (fun c_8 => ?_)
      · refine wa_iload_n dX10_unlike_46 rfl 1 rfl ?_
        refine wa_cSi (x_bits (sSeen (fun side => decide (nI sb >>> (nI side &&& 31) &&& 1 = 1) && !decide (C.1 19 (4 * k + side) = -1)) (fun side => (C.1 19 (4 * k + side)).toNatClampNeg) side) (sSeen_lt (fun i hi hp => by rw [Bool.and_eq_true] at hp; rw [hsP sb hsb i (by omega)] at hp; obtain ⟨x, hx, ex⟩ := hwn i (by omega) hp.1; rw [ex, nI_clamp (by omega)]; exact hx))) vX10_bits iX10_unlike_47 rfl rfl (Nat.le_of_ble_eq_true rfl) ⟨by decide, by decide⟩ ?_
        exact wa_iret dX10_unlike_50 rfl ⟨congrArg (fun z => some (Value.int z)) (by rw [show side = 4 by omega]), rfl⟩
      · refine wa_iload_n dX10_unlike_11 rfl 1 rfl ?_
        refine wa_iload_n dX10_unlike_12 rfl 4 rfl ?_
        refine wa_iload dX10_unlike_13 0 rfl ?_
        refine wa_cSi (x_has sb side (by omega) (by omega)) vX10_has iX10_unlike_15 rfl rfl (Nat.le_of_ble_eq_true rfl) ⟨by decide, by decide⟩ ?_
        refine wa_if_eqB 37 dX10_unlike_18 (by decide) (fun (c_18 : (sb.testBit side) = false) => ?_) (fun (c_18 : (sb.testBit side) = true) => ?_)
        · refine wa_iconst (0) dX10_unlike_37 (by decide) ?_
          refine wa_ior dX10_unlike_38 ?_
          refine wa_eqi (y := (nI (sSeen (fun side => decide (nI sb >>> (nI side &&& 31) &&& 1 = 1) && !decide (C.1 19 (4 * k + side) = -1)) (fun side => (C.1 19 (4 * k + side)).toNatClampNeg) (side + 1)))) (by first | (rw [sSeen_f (by show (decide _ && _) = false; rw [hsP sb hsb side (by omega), c_18]; rfl)]; exact Int32.or_zero) | (rw [sSeen_t (by show (decide _ && !decide _) = true; rw [hsP sb hsb side (by omega), c_18, ex, decide_eq_false (nI_nem1 (by omega))]; rfl), ex, nI_clamp (by omega), nI_or])) ?_
          refine wa_istore_n [(3, .int (nI (sSeen (fun side => decide (nI sb >>> (nI side &&& 31) &&& 1 = 1) && !decide (C.1 19 (4 * k + side) = -1)) (fun side => (C.1 19 (4 * k + side)).toNatClampNeg) (side + 1)))), (4, .int (nI (side))), (0, wm_r G (96)), (1, .int (nI (k))), (2, .int (nI (sb)))] dX10_unlike_39 rfl (by decide) rfl ?_
          refine wa_iinc ((nI (side + 1))) [(4, .int (nI (side + 1))), (3, .int (nI (sSeen (fun side => decide (nI sb >>> (nI side &&& 31) &&& 1 = 1) && !decide (C.1 19 (4 * k + side) = -1)) (fun side => (C.1 19 (4 * k + side)).toNatClampNeg) (side + 1)))), (0, wm_r G (96)), (1, .int (nI (k))), (2, .int (nI (sb)))] dX10_unlike_40 1 rfl (nI_inc _) (by decide) rfl ?_
          refine wa_goto 5 dX10_unlike_43 (by decide) ?_
          exact ih_5 (side + 1) (by omega) (by omega)
        · obtain ⟨x, hx, ex⟩ := hwn side (by omega) c_18
          refine wa_iconst (1) dX10_unlike_21 (by decide) ?_
          refine wa_aload_n dX10_unlike_22 rfl 2 rfl ?_
          refine wa_getr gX10_unlike_23 (rfl) rfl ?_
          refine wa_iconst (4) dX10_unlike_26 (by decide) ?_
          refine wa_iload_n dX10_unlike_27 rfl 3 rfl ?_
          refine wa_imulN (a := 4) (b := k) dX10_unlike_28 ?_
          refine wa_iload dX10_unlike_29 0 rfl ?_
          refine wa_iaddN (a := 4 * k) (b := side) dX10_unlike_31 ?_
          refine wa_ialdN (e := 4 * k + side) dX10_unlike_32 (rfl) (by omega) (by decide) ?_
          refine wa_eqi (y := (nI (x))) ((x104 _ (by omega)).trans ex) ?_
          refine wa_ishl dX10_unlike_33 ?_
          refine wa_eqi (y := (nI (2 ^ x))) (nI_pow _ (by omega)) ?_
          refine wa_goto 38 dX10_unlike_34 (by decide) ?_
          refine wa_ior dX10_unlike_38 ?_
          refine wa_eqi (y := (nI (sSeen (fun side => decide (nI sb >>> (nI side &&& 31) &&& 1 = 1) && !decide (C.1 19 (4 * k + side) = -1)) (fun side => (C.1 19 (4 * k + side)).toNatClampNeg) (side + 1)))) (by first | (rw [sSeen_f (by show (decide _ && _) = false; rw [hsP sb hsb side (by omega), c_18]; rfl)]; exact Int32.or_zero) | (rw [sSeen_t (by show (decide _ && !decide _) = true; rw [hsP sb hsb side (by omega), c_18, ex, decide_eq_false (nI_nem1 (by omega))]; rfl), ex, nI_clamp (by omega), nI_or])) ?_
          refine wa_istore_n [(3, .int (nI (sSeen (fun side => decide (nI sb >>> (nI side &&& 31) &&& 1 = 1) && !decide (C.1 19 (4 * k + side) = -1)) (fun side => (C.1 19 (4 * k + side)).toNatClampNeg) (side + 1)))), (4, .int (nI (side))), (0, wm_r G (96)), (1, .int (nI (k))), (2, .int (nI (sb)))] dX10_unlike_39 rfl (by decide) rfl ?_
          refine wa_iinc ((nI (side + 1))) [(4, .int (nI (side + 1))), (3, .int (nI (sSeen (fun side => decide (nI sb >>> (nI side &&& 31) &&& 1 = 1) && !decide (C.1 19 (4 * k + side) = -1)) (fun side => (C.1 19 (4 * k + side)).toNatClampNeg) (side + 1)))), (0, wm_r G (96)), (1, .int (nI (k))), (2, .int (nI (sb)))] dX10_unlike_40 1 rfl (nI_inc _) (by decide) rfl ?_
          refine wa_goto 5 dX10_unlike_43 (by decide) ?_
          exact ih_5 (side + 1) (by omega) (by omega)
  exact L_5 _ 0 (Nat.lt_succ_self _) (Nat.zero_le _)

theorem x_mark_bad1 {G : wm_G} {M : wm_M} (C : wm_M) (w h : Nat) (hX : xStn C M w h) (hW : TW C w h) (k : Int32) (hk : wIn k (w * h) = false) (kd : Int32) : MD G t_X10_mark [wm_r G (96), .int (k), .int (kd)] (M) (some (.int (-1))) (M) := by
  refine wm_met (by decide) (Nat.le_of_ble_eq_true rfl) ?_
  show WA G t_X10_mark (fun v_ N_ => v_ = some (.int (-1)) ∧ N_ = M) 0 [(0, wm_r G (96)), (1, .int (k)), (2, .int (kd))] [] (M)
  refine wa_aload_n dX10_mark_0 rfl 0 rfl ?_
  refine wa_iload_n dX10_mark_1 rfl 1 rfl ?_
  refine wa_cVi (x_isStone C w h hX hW k) vX10_isStone iX10_mark_2 (rfl) rfl rfl rfl (Nat.le_of_ble_eq_true rfl) ⟨by decide, by decide⟩ ?_
  refine wa_eqi (y := (0)) (by rw [hk]; rfl) ?_
  refine wa_if_eq 17 dX10_mark_5 (by decide) (fun c_5 => ?_) (fun c_5 => absurd c_5 (by decide))
  refine wa_iconst (-1) dX10_mark_17 (by decide) ?_
  exact wa_iret dX10_mark_18 rfl ⟨congrArg (fun z => some (Value.int z)) (rfl), rfl⟩

theorem x_mark_bad2 {G : wm_G} {M : wm_M} (C : wm_M) (w h : Nat) (hX : xStn C M w h) (hW : TW C w h) (k : Nat) (hk : k < w * h) (kd : Int32) (hw : kd < 1 ∨ ¬ kd ≤ 5) : MD G t_X10_mark [wm_r G (96), .int (nI (k)), .int (kd)] (M) (some (.int (-1))) (M) := by
  obtain ⟨x10, x11, x12, x103, x104, x105, x106⟩ := id hX
  have hn6 := TW_n hW
  have hw3 := hW.2.2.1
  have hh2 := hW.2.2.2
  refine wm_met (by decide) (Nat.le_of_ble_eq_true rfl) ?_
  show WA G t_X10_mark (fun v_ N_ => v_ = some (.int (-1)) ∧ N_ = M) 0 [(0, wm_r G (96)), (1, .int (nI (k))), (2, .int (kd))] [] (M)
  refine wa_aload_n dX10_mark_0 rfl 0 rfl ?_
  refine wa_iload_n dX10_mark_1 rfl 1 rfl ?_
  refine wa_cVi (x_isStone C w h hX hW (nI k)) vX10_isStone iX10_mark_2 (rfl) rfl rfl rfl (Nat.le_of_ble_eq_true rfl) ⟨by decide, by decide⟩ ?_
  refine wa_eqi (y := (1)) (by rw [wIn_nI (by omega), decide_eq_true hk]; rfl) ?_
  refine wa_if_eq 17 dX10_mark_5 (by decide) (fun c_5 => absurd c_5 (by decide)) (fun c_5 => ?_)
  refine wa_iload_n dX10_mark_8 rfl 2 rfl ?_
  refine wa_iconst (1) dX10_mark_9 (by decide) ?_
  refine wa_iconst (5) dX10_mark_10 (by decide) ?_
  refine wa_cSi (x_in kd 1 5) vX10_in iX10_mark_11 rfl rfl (Nat.le_of_ble_eq_true rfl) ⟨by decide, by decide⟩ ?_
  refine wa_eqi (y := (0)) (by rw [show inC kd 1 5 = false from Bool.eq_false_iff.mpr (fun q => (inC_1 (m := 5) (by decide)).mp q hw)]; rfl) ?_
  refine wa_if_ne 19 dX10_mark_14 (by decide) (fun c_14 => absurd c_14 (by decide)) (fun c_14 => ?_)
  refine wa_iconst (-1) dX10_mark_17 (by decide) ?_
  exact wa_iret dX10_mark_18 rfl ⟨congrArg (fun z => some (Value.int z)) (rfl), rfl⟩

theorem x_mark_un {G : wm_G} {M : wm_M} (C : wm_M) (w h : Nat) (hX : xStn C M w h) (hW : TW C w h) (k : Nat) (hk : k < w * h) (kd : Nat) (h1 : 1 ≤ kd) (h5 : kd ≤ 5) (hof : isOfB (C.1 18 k) (nI kd) = false) : MD G t_X10_mark [wm_r G (96), .int (nI (k)), .int (nI (kd))] (M) (some (.int (-3))) (xNote M 3) := by
  obtain ⟨x10, x11, x12, x103, x104, x105, x106⟩ := id hX
  have hn6 := TW_n hW
  have hw3 := hW.2.2.1
  have hh2 := hW.2.2.2
  refine wm_met (by decide) (Nat.le_of_ble_eq_true rfl) ?_
  show WA G t_X10_mark (fun v_ N_ => v_ = some (.int (-3)) ∧ N_ = xNote M 3) 0 [(0, wm_r G (96)), (1, .int (nI (k))), (2, .int (nI (kd)))] [] (M)
  refine wa_aload_n dX10_mark_0 rfl 0 rfl ?_
  refine wa_iload_n dX10_mark_1 rfl 1 rfl ?_
  refine wa_cVi (x_isStone C w h hX hW (nI k)) vX10_isStone iX10_mark_2 (rfl) rfl rfl rfl (Nat.le_of_ble_eq_true rfl) ⟨by decide, by decide⟩ ?_
  refine wa_eqi (y := (1)) (by rw [wIn_nI (by omega), decide_eq_true hk]; rfl) ?_
  refine wa_if_eq 17 dX10_mark_5 (by decide) (fun c_5 => absurd c_5 (by decide)) (fun c_5 => ?_)
  refine wa_iload_n dX10_mark_8 rfl 2 rfl ?_
  refine wa_iconst (1) dX10_mark_9 (by decide) ?_
  refine wa_iconst (5) dX10_mark_10 (by decide) ?_
  refine wa_cSi (x_in (nI kd) 1 5) vX10_in iX10_mark_11 rfl rfl (Nat.le_of_ble_eq_true rfl) ⟨by decide, by decide⟩ ?_
  refine wa_eqi (y := (1)) (by rw [show inC (nI kd) 1 5 = true from inC_t (fun q => by have := (nI_ltI (b := 1) (by omega) (by decide)).mp q; omega) ((nI_leI (b := 5) (by omega) (by decide)).mpr h5)]; rfl) ?_
  refine wa_if_ne 19 dX10_mark_14 (by decide) (fun c_14 => ?_) (fun c_14 => absurd c_14 (by decide))
  refine wa_aload_n dX10_mark_19 rfl 0 rfl ?_
  refine wa_getr gX10_mark_20 (rfl) rfl ?_
  refine wa_iload_n dX10_mark_23 rfl 1 rfl ?_
  refine wa_ialdN (e := k) dX10_mark_24 (rfl) (by omega) (by decide) ?_
  refine wa_eqi (y := (C.1 18 (k))) (x103 _ (by omega)) ?_
  refine wa_istore_n [(3, .int (C.1 18 (k))), (0, wm_r G (96)), (1, .int (nI (k))), (2, .int (nI (kd)))] dX10_mark_25 rfl (by decide) rfl ?_
  refine wa_iload_n dX10_mark_26 rfl 0 rfl ?_
  refine wa_iload_n dX10_mark_27 rfl 3 rfl ?_
  refine wa_icmp_eq 57 dX10_mark_28 (by decide) (fun c_28 => ?_) (fun c_28 => ?_)
  · exact absurd c_28 (isOf_f hof).1
  · refine wa_iload_n dX10_mark_31 rfl 3 rfl ?_
    refine wa_iconst (1) dX10_mark_32 (by decide) ?_
    refine wa_icmp_neN (a := kd) (b := 1) 41 dX10_mark_33 (by decide) (by omega) (by omega) (fun c_33 => ?_) (fun c_33 => ?_)
    · refine wa_iload_n dX10_mark_41 rfl 3 rfl ?_
      refine wa_iconst (2) dX10_mark_42 (by decide) ?_
      refine wa_icmp_neN (a := kd) (b := 2) 51 dX10_mark_43 (by decide) (by omega) (by omega) (fun c_43 => ?_) (fun c_43 => ?_)
      · refine wa_aload_n dX10_mark_51 rfl 1 rfl ?_
        refine wa_iconst (3) dX10_mark_52 (by decide) ?_
        refine wa_cVi (x_meets 3 (by decide) (by decide)) vX10_meets iX10_mark_53 (rfl) rfl rfl rfl (Nat.le_of_ble_eq_true rfl) ⟨by decide, by decide⟩ ?_
        exact wa_iret dX10_mark_56 rfl ⟨congrArg (fun z => some (Value.int z)) (rfl), rfl⟩
      · refine wa_iload_n dX10_mark_46 rfl 0 rfl ?_
        refine wa_iconst (5) dX10_mark_47 (by decide) ?_
        refine wa_icmp_eq 57 dX10_mark_48 (by decide) (fun c_48 => ?_) (fun c_48 => ?_)
        · exact absurd ⟨by rw [c_43]; rfl, c_48⟩ (isOf_f hof).2.2
        · refine wa_aload_n dX10_mark_51 rfl 1 rfl ?_
          refine wa_iconst (3) dX10_mark_52 (by decide) ?_
          refine wa_cVi (x_meets 3 (by decide) (by decide)) vX10_meets iX10_mark_53 (rfl) rfl rfl rfl (Nat.le_of_ble_eq_true rfl) ⟨by decide, by decide⟩ ?_
          exact wa_iret dX10_mark_56 rfl ⟨congrArg (fun z => some (Value.int z)) (rfl), rfl⟩
    · refine wa_iload_n dX10_mark_36 rfl 0 rfl ?_
      refine wa_iconst (4) dX10_mark_37 (by decide) ?_
      refine wa_icmp_eq 57 dX10_mark_38 (by decide) (fun c_38 => ?_) (fun c_38 => ?_)
      · exact absurd ⟨by rw [c_33]; rfl, c_38⟩ (isOf_f hof).2.1
      · refine wa_iload_n dX10_mark_41 rfl 3 rfl ?_
        refine wa_iconst (2) dX10_mark_42 (by decide) ?_
        refine wa_icmp_neN (a := kd) (b := 2) 51 dX10_mark_43 (by decide) (by omega) (by omega) (fun c_43 => ?_) (fun c_43 => ?_)
        · refine wa_aload_n dX10_mark_51 rfl 1 rfl ?_
          refine wa_iconst (3) dX10_mark_52 (by decide) ?_
          refine wa_cVi (x_meets 3 (by decide) (by decide)) vX10_meets iX10_mark_53 (rfl) rfl rfl rfl (Nat.le_of_ble_eq_true rfl) ⟨by decide, by decide⟩ ?_
          exact wa_iret dX10_mark_56 rfl ⟨congrArg (fun z => some (Value.int z)) (rfl), rfl⟩
        · refine wa_iload_n dX10_mark_46 rfl 0 rfl ?_
          refine wa_iconst (5) dX10_mark_47 (by decide) ?_
          refine wa_icmp_eq 57 dX10_mark_48 (by decide) (fun c_48 => ?_) (fun c_48 => ?_)
          · exact absurd ⟨by rw [c_43]; rfl, c_48⟩ (isOf_f hof).2.2
          · refine wa_aload_n dX10_mark_51 rfl 1 rfl ?_
            refine wa_iconst (3) dX10_mark_52 (by decide) ?_
            refine wa_cVi (x_meets 3 (by decide) (by decide)) vX10_meets iX10_mark_53 (rfl) rfl rfl rfl (Nat.le_of_ble_eq_true rfl) ⟨by decide, by decide⟩ ?_
            exact wa_iret dX10_mark_56 rfl ⟨congrArg (fun z => some (Value.int z)) (rfl), rfl⟩

theorem x_mark_1 {G : wm_G} {M : wm_M} (C : wm_M) (w h : Nat) (hX : xStn C M w h) (hW : TW C w h) (k : Nat) (hk : k < w * h) (hof : isOfB (C.1 18 k) 1 = true) : MD G t_X10_mark [wm_r G (96), .int (nI (k)), .int (nI (1))] (M) (some (.int (C.1 20 k))) (M) := by
  obtain ⟨x10, x11, x12, x103, x104, x105, x106⟩ := id hX
  have hn6 := TW_n hW
  have hw3 := hW.2.2.1
  have hh2 := hW.2.2.2
  refine wm_met (by decide) (Nat.le_of_ble_eq_true rfl) ?_
  show WA G t_X10_mark (fun v_ N_ => v_ = some (.int (C.1 20 k)) ∧ N_ = M) 0 [(0, wm_r G (96)), (1, .int (nI (k))), (2, .int (nI (1)))] [] (M)
  refine wa_aload_n dX10_mark_0 rfl 0 rfl ?_
  refine wa_iload_n dX10_mark_1 rfl 1 rfl ?_
  refine wa_cVi (x_isStone C w h hX hW (nI k)) vX10_isStone iX10_mark_2 (rfl) rfl rfl rfl (Nat.le_of_ble_eq_true rfl) ⟨by decide, by decide⟩ ?_
  refine wa_eqi (y := (1)) (by rw [wIn_nI (by omega), decide_eq_true hk]; rfl) ?_
  refine wa_if_eq 17 dX10_mark_5 (by decide) (fun c_5 => absurd c_5 (by decide)) (fun c_5 => ?_)
  refine wa_iload_n dX10_mark_8 rfl 2 rfl ?_
  refine wa_iconst (1) dX10_mark_9 (by decide) ?_
  refine wa_iconst (5) dX10_mark_10 (by decide) ?_
  refine wa_cSi (x_in 1 1 5) vX10_in iX10_mark_11 rfl rfl (Nat.le_of_ble_eq_true rfl) ⟨by decide, by decide⟩ ?_
  refine wa_eqi (y := (1)) (by decide) ?_
  refine wa_if_ne 19 dX10_mark_14 (by decide) (fun c_14 => ?_) (fun c_14 => absurd c_14 (by decide))
  refine wa_aload_n dX10_mark_19 rfl 0 rfl ?_
  refine wa_getr gX10_mark_20 (rfl) rfl ?_
  refine wa_iload_n dX10_mark_23 rfl 1 rfl ?_
  refine wa_ialdN (e := k) dX10_mark_24 (rfl) (by omega) (by decide) ?_
  refine wa_eqi (y := (C.1 18 (k))) (x103 _ (by omega)) ?_
  refine wa_istore_n [(3, .int (C.1 18 (k))), (0, wm_r G (96)), (1, .int (nI (k))), (2, .int (nI (1)))] dX10_mark_25 rfl (by decide) rfl ?_
  refine wa_iload_n dX10_mark_26 rfl 0 rfl ?_
  refine wa_iload_n dX10_mark_27 rfl 3 rfl ?_
  refine wa_icmp_eq 57 dX10_mark_28 (by decide) (fun c_28 => ?_) (fun c_28 => ?_)
  · have L_57 : WA G t_X10_mark (fun v_ N_ => v_ = some (.int (C.1 20 k)) ∧ N_ = M) 57 [(0, wm_r G (96)), (1, .int (nI (k))), (2, .int (nI (1)))] [] (M) := by
      refine wa_iload_n dX10_mark_57 rfl 2 rfl ?_
      by_cases s_58_1 : ((nI (1))) = (1)
      · rw [s_58_1]
        refine wa_tableIn 88 dX10_mark_58 (by decide) (by decide) rfl (by decide) ?_
        refine wa_aload_n dX10_mark_88 rfl 0 rfl ?_
        refine wa_getr gX10_mark_89 (rfl) rfl ?_
        refine wa_iload_n dX10_mark_92 rfl 1 rfl ?_
        refine wa_ialdN (e := k) dX10_mark_93 (rfl) (by omega) (by decide) ?_
        refine wa_eqi (y := (C.1 20 k)) (x105 _ hk) ?_
        exact wa_iret dX10_mark_94 rfl ⟨congrArg (fun z => some (Value.int z)) (rfl), rfl⟩
      have s_58_2 : ¬ ((nI (1))) = (2) := by decide
      have s_58_3 : ¬ ((nI (1))) = (3) := by decide
      have s_58_4 : ¬ ((nI (1))) = (4) := by decide
      exact absurd (by decide) s_58_1
    refine wa_sub [1, 2, 3] rfl ?_
    exact L_57  
  · refine wa_iload_n dX10_mark_31 rfl 3 rfl ?_
    refine wa_iconst (1) dX10_mark_32 (by decide) ?_
    refine wa_icmp_neN (a := 1) (b := 1) 41 dX10_mark_33 (by decide) (by omega) (by omega) (fun c_33 => ?_) (fun c_33 => ?_)
    · refine wa_iload_n dX10_mark_41 rfl 3 rfl ?_
      refine wa_iconst (2) dX10_mark_42 (by decide) ?_
      refine wa_icmp_neN (a := 1) (b := 2) 51 dX10_mark_43 (by decide) (by omega) (by omega) (fun c_43 => ?_) (fun c_43 => ?_)
      · rcases isOf_t hof with q | ⟨q1, q2⟩ | ⟨q1, q2⟩
        · exact absurd q c_28
        · first | exact absurd q2 c_38 | exact absurd rfl c_33 | exact absurd q1 (by decide)
        · first | exact absurd q2 c_48 | exact absurd rfl c_43 | exact absurd q1 (by decide)
      · refine wa_iload_n dX10_mark_46 rfl 0 rfl ?_
        refine wa_iconst (5) dX10_mark_47 (by decide) ?_
        refine wa_icmp_eq 57 dX10_mark_48 (by decide) (fun c_48 => ?_) (fun c_48 => ?_)
        · have L_57 : WA G t_X10_mark (fun v_ N_ => v_ = some (.int (C.1 20 k)) ∧ N_ = M) 57 [(0, wm_r G (96)), (1, .int (nI (k))), (2, .int (nI (1)))] [] (M) := by
            refine wa_iload_n dX10_mark_57 rfl 2 rfl ?_
            by_cases s_58_1 : ((nI (1))) = (1)
            · rw [s_58_1]
              refine wa_tableIn 88 dX10_mark_58 (by decide) (by decide) rfl (by decide) ?_
              refine wa_aload_n dX10_mark_88 rfl 0 rfl ?_
              refine wa_getr gX10_mark_89 (rfl) rfl ?_
              refine wa_iload_n dX10_mark_92 rfl 1 rfl ?_
              refine wa_ialdN (e := k) dX10_mark_93 (rfl) (by omega) (by decide) ?_
              refine wa_eqi (y := (C.1 20 k)) (x105 _ hk) ?_
              exact wa_iret dX10_mark_94 rfl ⟨congrArg (fun z => some (Value.int z)) (rfl), rfl⟩
            have s_58_2 : ¬ ((nI (1))) = (2) := by decide
            have s_58_3 : ¬ ((nI (1))) = (3) := by decide
            have s_58_4 : ¬ ((nI (1))) = (4) := by decide
            exact absurd (by decide) s_58_1
          refine wa_sub [1, 2, 3] rfl ?_
          exact L_57  
        · rcases isOf_t hof with q | ⟨q1, q2⟩ | ⟨q1, q2⟩
          · exact absurd q c_28
          · first | exact absurd q2 c_38 | exact absurd rfl c_33 | exact absurd q1 (by decide)
          · first | exact absurd q2 c_48 | exact absurd rfl c_43 | exact absurd q1 (by decide)
    · refine wa_iload_n dX10_mark_36 rfl 0 rfl ?_
      refine wa_iconst (4) dX10_mark_37 (by decide) ?_
      refine wa_icmp_eq 57 dX10_mark_38 (by decide) (fun c_38 => ?_) (fun c_38 => ?_)
      · have L_57 : WA G t_X10_mark (fun v_ N_ => v_ = some (.int (C.1 20 k)) ∧ N_ = M) 57 [(0, wm_r G (96)), (1, .int (nI (k))), (2, .int (nI (1)))] [] (M) := by
          refine wa_iload_n dX10_mark_57 rfl 2 rfl ?_
          by_cases s_58_1 : ((nI (1))) = (1)
          · rw [s_58_1]
            refine wa_tableIn 88 dX10_mark_58 (by decide) (by decide) rfl (by decide) ?_
            refine wa_aload_n dX10_mark_88 rfl 0 rfl ?_
            refine wa_getr gX10_mark_89 (rfl) rfl ?_
            refine wa_iload_n dX10_mark_92 rfl 1 rfl ?_
            refine wa_ialdN (e := k) dX10_mark_93 (rfl) (by omega) (by decide) ?_
            refine wa_eqi (y := (C.1 20 k)) (x105 _ hk) ?_
            exact wa_iret dX10_mark_94 rfl ⟨congrArg (fun z => some (Value.int z)) (rfl), rfl⟩
          have s_58_2 : ¬ ((nI (1))) = (2) := by decide
          have s_58_3 : ¬ ((nI (1))) = (3) := by decide
          have s_58_4 : ¬ ((nI (1))) = (4) := by decide
          exact absurd (by decide) s_58_1
        refine wa_sub [1, 2, 3] rfl ?_
        exact L_57  
      · refine wa_iload_n dX10_mark_41 rfl 3 rfl ?_
        refine wa_iconst (2) dX10_mark_42 (by decide) ?_
        refine wa_icmp_neN (a := 1) (b := 2) 51 dX10_mark_43 (by decide) (by omega) (by omega) (fun c_43 => ?_) (fun c_43 => ?_)
        · rcases isOf_t hof with q | ⟨q1, q2⟩ | ⟨q1, q2⟩
          · exact absurd q c_28
          · first | exact absurd q2 c_38 | exact absurd rfl c_33 | exact absurd q1 (by decide)
          · first | exact absurd q2 c_48 | exact absurd rfl c_43 | exact absurd q1 (by decide)
        · refine wa_iload_n dX10_mark_46 rfl 0 rfl ?_
          refine wa_iconst (5) dX10_mark_47 (by decide) ?_
          refine wa_icmp_eq 57 dX10_mark_48 (by decide) (fun c_48 => ?_) (fun c_48 => ?_)
          · have L_57 : WA G t_X10_mark (fun v_ N_ => v_ = some (.int (C.1 20 k)) ∧ N_ = M) 57 [(0, wm_r G (96)), (1, .int (nI (k))), (2, .int (nI (1)))] [] (M) := by
              refine wa_iload_n dX10_mark_57 rfl 2 rfl ?_
              by_cases s_58_1 : ((nI (1))) = (1)
              · rw [s_58_1]
                refine wa_tableIn 88 dX10_mark_58 (by decide) (by decide) rfl (by decide) ?_
                refine wa_aload_n dX10_mark_88 rfl 0 rfl ?_
                refine wa_getr gX10_mark_89 (rfl) rfl ?_
                refine wa_iload_n dX10_mark_92 rfl 1 rfl ?_
                refine wa_ialdN (e := k) dX10_mark_93 (rfl) (by omega) (by decide) ?_
                refine wa_eqi (y := (C.1 20 k)) (x105 _ hk) ?_
                exact wa_iret dX10_mark_94 rfl ⟨congrArg (fun z => some (Value.int z)) (rfl), rfl⟩
              have s_58_2 : ¬ ((nI (1))) = (2) := by decide
              have s_58_3 : ¬ ((nI (1))) = (3) := by decide
              have s_58_4 : ¬ ((nI (1))) = (4) := by decide
              exact absurd (by decide) s_58_1
            refine wa_sub [1, 2, 3] rfl ?_
            exact L_57  
          · rcases isOf_t hof with q | ⟨q1, q2⟩ | ⟨q1, q2⟩
            · exact absurd q c_28
            · first | exact absurd q2 c_38 | exact absurd rfl c_33 | exact absurd q1 (by decide)
            · first | exact absurd q2 c_48 | exact absurd rfl c_43 | exact absurd q1 (by decide)

theorem x_mark_2 {G : wm_G} {M : wm_M} (C : wm_M) (w h : Nat) (hX : xStn C M w h) (hW : TW C w h) (k : Nat) (hk : k < w * h) (hof : isOfB (C.1 18 k) 2 = true) : MD G t_X10_mark [wm_r G (96), .int (nI (k)), .int (nI (2))] (M) (some (.int (nI ((if 1 < w then 1 else 0) + (if 1 < h then 1 else 0))))) (M) := by
  obtain ⟨x10, x11, x12, x103, x104, x105, x106⟩ := id hX
  have hn6 := TW_n hW
  have hw3 := hW.2.2.1
  have hh2 := hW.2.2.2
  refine wm_met (by decide) (Nat.le_of_ble_eq_true rfl) ?_
  show WA G t_X10_mark (fun v_ N_ => v_ = some (.int (nI ((if 1 < w then 1 else 0) + (if 1 < h then 1 else 0)))) ∧ N_ = M) 0 [(0, wm_r G (96)), (1, .int (nI (k))), (2, .int (nI (2)))] [] (M)
  refine wa_aload_n dX10_mark_0 rfl 0 rfl ?_
  refine wa_iload_n dX10_mark_1 rfl 1 rfl ?_
  refine wa_cVi (x_isStone C w h hX hW (nI k)) vX10_isStone iX10_mark_2 (rfl) rfl rfl rfl (Nat.le_of_ble_eq_true rfl) ⟨by decide, by decide⟩ ?_
  refine wa_eqi (y := (1)) (by rw [wIn_nI (by omega), decide_eq_true hk]; rfl) ?_
  refine wa_if_eq 17 dX10_mark_5 (by decide) (fun c_5 => absurd c_5 (by decide)) (fun c_5 => ?_)
  refine wa_iload_n dX10_mark_8 rfl 2 rfl ?_
  refine wa_iconst (1) dX10_mark_9 (by decide) ?_
  refine wa_iconst (5) dX10_mark_10 (by decide) ?_
  refine wa_cSi (x_in 2 1 5) vX10_in iX10_mark_11 rfl rfl (Nat.le_of_ble_eq_true rfl) ⟨by decide, by decide⟩ ?_
  refine wa_eqi (y := (1)) (by decide) ?_
  refine wa_if_ne 19 dX10_mark_14 (by decide) (fun c_14 => ?_) (fun c_14 => absurd c_14 (by decide))
  refine wa_aload_n dX10_mark_19 rfl 0 rfl ?_
  refine wa_getr gX10_mark_20 (rfl) rfl ?_
  refine wa_iload_n dX10_mark_23 rfl 1 rfl ?_
  refine wa_ialdN (e := k) dX10_mark_24 (rfl) (by omega) (by decide) ?_
  refine wa_eqi (y := (C.1 18 (k))) (x103 _ (by omega)) ?_
  refine wa_istore_n [(3, .int (C.1 18 (k))), (0, wm_r G (96)), (1, .int (nI (k))), (2, .int (nI (2)))] dX10_mark_25 rfl (by decide) rfl ?_
  refine wa_iload_n dX10_mark_26 rfl 0 rfl ?_
  refine wa_iload_n dX10_mark_27 rfl 3 rfl ?_
  refine wa_icmp_eq 57 dX10_mark_28 (by decide) (fun c_28 => ?_) (fun c_28 => ?_)
  · have L_57 : WA G t_X10_mark (fun v_ N_ => v_ = some (.int (nI ((if 1 < w then 1 else 0) + (if 1 < h then 1 else 0)))) ∧ N_ = M) 57 [(0, wm_r G (96)), (1, .int (nI (k))), (2, .int (nI (2)))] [] (M) := by
      refine wa_iload_n dX10_mark_57 rfl 2 rfl ?_
      have s_58_1 : ¬ ((nI (2))) = (1) := by decide
      by_cases s_58_2 : ((nI (2))) = (2)
      · rw [s_58_2]
        refine wa_tableIn 95 dX10_mark_58 (by decide) (by decide) rfl (by decide) ?_
        refine wa_aload_n dX10_mark_95 rfl 0 rfl ?_
        refine wa_geti gX10_mark_96 (rfl) rfl ?_
        refine wa_eqi (y := (nI (w))) (x10) ?_
        refine wa_iconst (1) dX10_mark_99 (by decide) ?_
        refine wa_icmp_leN (a := w) (b := 1) 107 dX10_mark_100 (by decide) (by omega) (by omega) (fun c_100 => ?_) (fun c_100 => ?_)
        · refine wa_iconst (0) dX10_mark_107 (by decide) ?_
          refine wa_aload_n dX10_mark_108 rfl 0 rfl ?_
          refine wa_geti gX10_mark_109 (rfl) rfl ?_
          refine wa_eqi (y := (nI (h))) (x11) ?_
          refine wa_iconst (1) dX10_mark_112 (by decide) ?_
          refine wa_icmp_leN (a := h) (b := 1) 120 dX10_mark_113 (by decide) (by omega) (by omega) (fun c_113 => ?_) (fun c_113 => ?_)
          · refine wa_iconst (0) dX10_mark_120 (by decide) ?_
            refine wa_iadd dX10_mark_121 ?_
            exact wa_iret dX10_mark_122 rfl ⟨congrArg (fun z => some (Value.int z)) (by first | (rw [if_neg (show ¬ 1 < w by omega), if_neg (show ¬ 1 < h by omega)]; rfl) | (rw [if_neg (show ¬ 1 < w by omega), if_pos (show 1 < h by omega)]; rfl) | (rw [if_pos (show 1 < w by omega), if_neg (show ¬ 1 < h by omega)]; rfl) | (rw [if_pos (show 1 < w by omega), if_pos (show 1 < h by omega)]; rfl)), rfl⟩
          · refine wa_iconst (1) dX10_mark_116 (by decide) ?_
            refine wa_goto 121 dX10_mark_117 (by decide) ?_
            refine wa_iadd dX10_mark_121 ?_
            exact wa_iret dX10_mark_122 rfl ⟨congrArg (fun z => some (Value.int z)) (by first | (rw [if_neg (show ¬ 1 < w by omega), if_neg (show ¬ 1 < h by omega)]; rfl) | (rw [if_neg (show ¬ 1 < w by omega), if_pos (show 1 < h by omega)]; rfl) | (rw [if_pos (show 1 < w by omega), if_neg (show ¬ 1 < h by omega)]; rfl) | (rw [if_pos (show 1 < w by omega), if_pos (show 1 < h by omega)]; rfl)), rfl⟩
        · refine wa_iconst (1) dX10_mark_103 (by decide) ?_
          refine wa_goto 108 dX10_mark_104 (by decide) ?_
          refine wa_aload_n dX10_mark_108 rfl 0 rfl ?_
          refine wa_geti gX10_mark_109 (rfl) rfl ?_
          refine wa_eqi (y := (nI (h))) (x11) ?_
          refine wa_iconst (1) dX10_mark_112 (by decide) ?_
          refine wa_icmp_leN (a := h) (b := 1) 120 dX10_mark_113 (by decide) (by omega) (by omega) (fun c_113 => ?_) (fun c_113 => ?_)
          · refine wa_iconst (0) dX10_mark_120 (by decide) ?_
            refine wa_iadd dX10_mark_121 ?_
            exact wa_iret dX10_mark_122 rfl ⟨congrArg (fun z => some (Value.int z)) (by first | (rw [if_neg (show ¬ 1 < w by omega), if_neg (show ¬ 1 < h by omega)]; rfl) | (rw [if_neg (show ¬ 1 < w by omega), if_pos (show 1 < h by omega)]; rfl) | (rw [if_pos (show 1 < w by omega), if_neg (show ¬ 1 < h by omega)]; rfl) | (rw [if_pos (show 1 < w by omega), if_pos (show 1 < h by omega)]; rfl)), rfl⟩
          · refine wa_iconst (1) dX10_mark_116 (by decide) ?_
            refine wa_goto 121 dX10_mark_117 (by decide) ?_
            refine wa_iadd dX10_mark_121 ?_
            exact wa_iret dX10_mark_122 rfl ⟨congrArg (fun z => some (Value.int z)) (by first | (rw [if_neg (show ¬ 1 < w by omega), if_neg (show ¬ 1 < h by omega)]; rfl) | (rw [if_neg (show ¬ 1 < w by omega), if_pos (show 1 < h by omega)]; rfl) | (rw [if_pos (show 1 < w by omega), if_neg (show ¬ 1 < h by omega)]; rfl) | (rw [if_pos (show 1 < w by omega), if_pos (show 1 < h by omega)]; rfl)), rfl⟩
      have s_58_3 : ¬ ((nI (2))) = (3) := by decide
      have s_58_4 : ¬ ((nI (2))) = (4) := by decide
      exact absurd (by decide) s_58_2
    refine wa_sub [1, 2, 3] rfl ?_
    exact L_57  
  · refine wa_iload_n dX10_mark_31 rfl 3 rfl ?_
    refine wa_iconst (1) dX10_mark_32 (by decide) ?_
    refine wa_icmp_neN (a := 2) (b := 1) 41 dX10_mark_33 (by decide) (by omega) (by omega) (fun c_33 => ?_) (fun c_33 => ?_)
    · refine wa_iload_n dX10_mark_41 rfl 3 rfl ?_
      refine wa_iconst (2) dX10_mark_42 (by decide) ?_
      refine wa_icmp_neN (a := 2) (b := 2) 51 dX10_mark_43 (by decide) (by omega) (by omega) (fun c_43 => ?_) (fun c_43 => ?_)
      · rcases isOf_t hof with q | ⟨q1, q2⟩ | ⟨q1, q2⟩
        · exact absurd q c_28
        · first | exact absurd q2 c_38 | exact absurd rfl c_33 | exact absurd q1 (by decide)
        · first | exact absurd q2 c_48 | exact absurd rfl c_43 | exact absurd q1 (by decide)
      · refine wa_iload_n dX10_mark_46 rfl 0 rfl ?_
        refine wa_iconst (5) dX10_mark_47 (by decide) ?_
        refine wa_icmp_eq 57 dX10_mark_48 (by decide) (fun c_48 => ?_) (fun c_48 => ?_)
        · have L_57 : WA G t_X10_mark (fun v_ N_ => v_ = some (.int (nI ((if 1 < w then 1 else 0) + (if 1 < h then 1 else 0)))) ∧ N_ = M) 57 [(0, wm_r G (96)), (1, .int (nI (k))), (2, .int (nI (2)))] [] (M) := by
            refine wa_iload_n dX10_mark_57 rfl 2 rfl ?_
            have s_58_1 : ¬ ((nI (2))) = (1) := by decide
            by_cases s_58_2 : ((nI (2))) = (2)
            · rw [s_58_2]
              refine wa_tableIn 95 dX10_mark_58 (by decide) (by decide) rfl (by decide) ?_
              refine wa_aload_n dX10_mark_95 rfl 0 rfl ?_
              refine wa_geti gX10_mark_96 (rfl) rfl ?_
              refine wa_eqi (y := (nI (w))) (x10) ?_
              refine wa_iconst (1) dX10_mark_99 (by decide) ?_
              refine wa_icmp_leN (a := w) (b := 1) 107 dX10_mark_100 (by decide) (by omega) (by omega) (fun c_100 => ?_) (fun c_100 => ?_)
              · refine wa_iconst (0) dX10_mark_107 (by decide) ?_
                refine wa_aload_n dX10_mark_108 rfl 0 rfl ?_
                refine wa_geti gX10_mark_109 (rfl) rfl ?_
                refine wa_eqi (y := (nI (h))) (x11) ?_
                refine wa_iconst (1) dX10_mark_112 (by decide) ?_
                refine wa_icmp_leN (a := h) (b := 1) 120 dX10_mark_113 (by decide) (by omega) (by omega) (fun c_113 => ?_) (fun c_113 => ?_)
                · refine wa_iconst (0) dX10_mark_120 (by decide) ?_
                  refine wa_iadd dX10_mark_121 ?_
                  exact wa_iret dX10_mark_122 rfl ⟨congrArg (fun z => some (Value.int z)) (by first | (rw [if_neg (show ¬ 1 < w by omega), if_neg (show ¬ 1 < h by omega)]; rfl) | (rw [if_neg (show ¬ 1 < w by omega), if_pos (show 1 < h by omega)]; rfl) | (rw [if_pos (show 1 < w by omega), if_neg (show ¬ 1 < h by omega)]; rfl) | (rw [if_pos (show 1 < w by omega), if_pos (show 1 < h by omega)]; rfl)), rfl⟩
                · refine wa_iconst (1) dX10_mark_116 (by decide) ?_
                  refine wa_goto 121 dX10_mark_117 (by decide) ?_
                  refine wa_iadd dX10_mark_121 ?_
                  exact wa_iret dX10_mark_122 rfl ⟨congrArg (fun z => some (Value.int z)) (by first | (rw [if_neg (show ¬ 1 < w by omega), if_neg (show ¬ 1 < h by omega)]; rfl) | (rw [if_neg (show ¬ 1 < w by omega), if_pos (show 1 < h by omega)]; rfl) | (rw [if_pos (show 1 < w by omega), if_neg (show ¬ 1 < h by omega)]; rfl) | (rw [if_pos (show 1 < w by omega), if_pos (show 1 < h by omega)]; rfl)), rfl⟩
              · refine wa_iconst (1) dX10_mark_103 (by decide) ?_
                refine wa_goto 108 dX10_mark_104 (by decide) ?_
                refine wa_aload_n dX10_mark_108 rfl 0 rfl ?_
                refine wa_geti gX10_mark_109 (rfl) rfl ?_
                refine wa_eqi (y := (nI (h))) (x11) ?_
                refine wa_iconst (1) dX10_mark_112 (by decide) ?_
                refine wa_icmp_leN (a := h) (b := 1) 120 dX10_mark_113 (by decide) (by omega) (by omega) (fun c_113 => ?_) (fun c_113 => ?_)
                · refine wa_iconst (0) dX10_mark_120 (by decide) ?_
                  refine wa_iadd dX10_mark_121 ?_
                  exact wa_iret dX10_mark_122 rfl ⟨congrArg (fun z => some (Value.int z)) (by first | (rw [if_neg (show ¬ 1 < w by omega), if_neg (show ¬ 1 < h by omega)]; rfl) | (rw [if_neg (show ¬ 1 < w by omega), if_pos (show 1 < h by omega)]; rfl) | (rw [if_pos (show 1 < w by omega), if_neg (show ¬ 1 < h by omega)]; rfl) | (rw [if_pos (show 1 < w by omega), if_pos (show 1 < h by omega)]; rfl)), rfl⟩
                · refine wa_iconst (1) dX10_mark_116 (by decide) ?_
                  refine wa_goto 121 dX10_mark_117 (by decide) ?_
                  refine wa_iadd dX10_mark_121 ?_
                  exact wa_iret dX10_mark_122 rfl ⟨congrArg (fun z => some (Value.int z)) (by first | (rw [if_neg (show ¬ 1 < w by omega), if_neg (show ¬ 1 < h by omega)]; rfl) | (rw [if_neg (show ¬ 1 < w by omega), if_pos (show 1 < h by omega)]; rfl) | (rw [if_pos (show 1 < w by omega), if_neg (show ¬ 1 < h by omega)]; rfl) | (rw [if_pos (show 1 < w by omega), if_pos (show 1 < h by omega)]; rfl)), rfl⟩
            have s_58_3 : ¬ ((nI (2))) = (3) := by decide
            have s_58_4 : ¬ ((nI (2))) = (4) := by decide
            exact absurd (by decide) s_58_2
          refine wa_sub [1, 2, 3] rfl ?_
          exact L_57  
        · rcases isOf_t hof with q | ⟨q1, q2⟩ | ⟨q1, q2⟩
          · exact absurd q c_28
          · first | exact absurd q2 c_38 | exact absurd rfl c_33 | exact absurd q1 (by decide)
          · first | exact absurd q2 c_48 | exact absurd rfl c_43 | exact absurd q1 (by decide)
    · refine wa_iload_n dX10_mark_36 rfl 0 rfl ?_
      refine wa_iconst (4) dX10_mark_37 (by decide) ?_
      refine wa_icmp_eq 57 dX10_mark_38 (by decide) (fun c_38 => ?_) (fun c_38 => ?_)
      · have L_57 : WA G t_X10_mark (fun v_ N_ => v_ = some (.int (nI ((if 1 < w then 1 else 0) + (if 1 < h then 1 else 0)))) ∧ N_ = M) 57 [(0, wm_r G (96)), (1, .int (nI (k))), (2, .int (nI (2)))] [] (M) := by
          refine wa_iload_n dX10_mark_57 rfl 2 rfl ?_
          have s_58_1 : ¬ ((nI (2))) = (1) := by decide
          by_cases s_58_2 : ((nI (2))) = (2)
          · rw [s_58_2]
            refine wa_tableIn 95 dX10_mark_58 (by decide) (by decide) rfl (by decide) ?_
            refine wa_aload_n dX10_mark_95 rfl 0 rfl ?_
            refine wa_geti gX10_mark_96 (rfl) rfl ?_
            refine wa_eqi (y := (nI (w))) (x10) ?_
            refine wa_iconst (1) dX10_mark_99 (by decide) ?_
            refine wa_icmp_leN (a := w) (b := 1) 107 dX10_mark_100 (by decide) (by omega) (by omega) (fun c_100 => ?_) (fun c_100 => ?_)
            · refine wa_iconst (0) dX10_mark_107 (by decide) ?_
              refine wa_aload_n dX10_mark_108 rfl 0 rfl ?_
              refine wa_geti gX10_mark_109 (rfl) rfl ?_
              refine wa_eqi (y := (nI (h))) (x11) ?_
              refine wa_iconst (1) dX10_mark_112 (by decide) ?_
              refine wa_icmp_leN (a := h) (b := 1) 120 dX10_mark_113 (by decide) (by omega) (by omega) (fun c_113 => ?_) (fun c_113 => ?_)
              · refine wa_iconst (0) dX10_mark_120 (by decide) ?_
                refine wa_iadd dX10_mark_121 ?_
                exact wa_iret dX10_mark_122 rfl ⟨congrArg (fun z => some (Value.int z)) (by first | (rw [if_neg (show ¬ 1 < w by omega), if_neg (show ¬ 1 < h by omega)]; rfl) | (rw [if_neg (show ¬ 1 < w by omega), if_pos (show 1 < h by omega)]; rfl) | (rw [if_pos (show 1 < w by omega), if_neg (show ¬ 1 < h by omega)]; rfl) | (rw [if_pos (show 1 < w by omega), if_pos (show 1 < h by omega)]; rfl)), rfl⟩
              · refine wa_iconst (1) dX10_mark_116 (by decide) ?_
                refine wa_goto 121 dX10_mark_117 (by decide) ?_
                refine wa_iadd dX10_mark_121 ?_
                exact wa_iret dX10_mark_122 rfl ⟨congrArg (fun z => some (Value.int z)) (by first | (rw [if_neg (show ¬ 1 < w by omega), if_neg (show ¬ 1 < h by omega)]; rfl) | (rw [if_neg (show ¬ 1 < w by omega), if_pos (show 1 < h by omega)]; rfl) | (rw [if_pos (show 1 < w by omega), if_neg (show ¬ 1 < h by omega)]; rfl) | (rw [if_pos (show 1 < w by omega), if_pos (show 1 < h by omega)]; rfl)), rfl⟩
            · refine wa_iconst (1) dX10_mark_103 (by decide) ?_
              refine wa_goto 108 dX10_mark_104 (by decide) ?_
              refine wa_aload_n dX10_mark_108 rfl 0 rfl ?_
              refine wa_geti gX10_mark_109 (rfl) rfl ?_
              refine wa_eqi (y := (nI (h))) (x11) ?_
              refine wa_iconst (1) dX10_mark_112 (by decide) ?_
              refine wa_icmp_leN (a := h) (b := 1) 120 dX10_mark_113 (by decide) (by omega) (by omega) (fun c_113 => ?_) (fun c_113 => ?_)
              · refine wa_iconst (0) dX10_mark_120 (by decide) ?_
                refine wa_iadd dX10_mark_121 ?_
                exact wa_iret dX10_mark_122 rfl ⟨congrArg (fun z => some (Value.int z)) (by first | (rw [if_neg (show ¬ 1 < w by omega), if_neg (show ¬ 1 < h by omega)]; rfl) | (rw [if_neg (show ¬ 1 < w by omega), if_pos (show 1 < h by omega)]; rfl) | (rw [if_pos (show 1 < w by omega), if_neg (show ¬ 1 < h by omega)]; rfl) | (rw [if_pos (show 1 < w by omega), if_pos (show 1 < h by omega)]; rfl)), rfl⟩
              · refine wa_iconst (1) dX10_mark_116 (by decide) ?_
                refine wa_goto 121 dX10_mark_117 (by decide) ?_
                refine wa_iadd dX10_mark_121 ?_
                exact wa_iret dX10_mark_122 rfl ⟨congrArg (fun z => some (Value.int z)) (by first | (rw [if_neg (show ¬ 1 < w by omega), if_neg (show ¬ 1 < h by omega)]; rfl) | (rw [if_neg (show ¬ 1 < w by omega), if_pos (show 1 < h by omega)]; rfl) | (rw [if_pos (show 1 < w by omega), if_neg (show ¬ 1 < h by omega)]; rfl) | (rw [if_pos (show 1 < w by omega), if_pos (show 1 < h by omega)]; rfl)), rfl⟩
          have s_58_3 : ¬ ((nI (2))) = (3) := by decide
          have s_58_4 : ¬ ((nI (2))) = (4) := by decide
          exact absurd (by decide) s_58_2
        refine wa_sub [1, 2, 3] rfl ?_
        exact L_57  
      · refine wa_iload_n dX10_mark_41 rfl 3 rfl ?_
        refine wa_iconst (2) dX10_mark_42 (by decide) ?_
        refine wa_icmp_neN (a := 2) (b := 2) 51 dX10_mark_43 (by decide) (by omega) (by omega) (fun c_43 => ?_) (fun c_43 => ?_)
        · rcases isOf_t hof with q | ⟨q1, q2⟩ | ⟨q1, q2⟩
          · exact absurd q c_28
          · first | exact absurd q2 c_38 | exact absurd rfl c_33 | exact absurd q1 (by decide)
          · first | exact absurd q2 c_48 | exact absurd rfl c_43 | exact absurd q1 (by decide)
        · refine wa_iload_n dX10_mark_46 rfl 0 rfl ?_
          refine wa_iconst (5) dX10_mark_47 (by decide) ?_
          refine wa_icmp_eq 57 dX10_mark_48 (by decide) (fun c_48 => ?_) (fun c_48 => ?_)
          · have L_57 : WA G t_X10_mark (fun v_ N_ => v_ = some (.int (nI ((if 1 < w then 1 else 0) + (if 1 < h then 1 else 0)))) ∧ N_ = M) 57 [(0, wm_r G (96)), (1, .int (nI (k))), (2, .int (nI (2)))] [] (M) := by
              refine wa_iload_n dX10_mark_57 rfl 2 rfl ?_
              have s_58_1 : ¬ ((nI (2))) = (1) := by decide
              by_cases s_58_2 : ((nI (2))) = (2)
              · rw [s_58_2]
                refine wa_tableIn 95 dX10_mark_58 (by decide) (by decide) rfl (by decide) ?_
                refine wa_aload_n dX10_mark_95 rfl 0 rfl ?_
                refine wa_geti gX10_mark_96 (rfl) rfl ?_
                refine wa_eqi (y := (nI (w))) (x10) ?_
                refine wa_iconst (1) dX10_mark_99 (by decide) ?_
                refine wa_icmp_leN (a := w) (b := 1) 107 dX10_mark_100 (by decide) (by omega) (by omega) (fun c_100 => ?_) (fun c_100 => ?_)
                · refine wa_iconst (0) dX10_mark_107 (by decide) ?_
                  refine wa_aload_n dX10_mark_108 rfl 0 rfl ?_
                  refine wa_geti gX10_mark_109 (rfl) rfl ?_
                  refine wa_eqi (y := (nI (h))) (x11) ?_
                  refine wa_iconst (1) dX10_mark_112 (by decide) ?_
                  refine wa_icmp_leN (a := h) (b := 1) 120 dX10_mark_113 (by decide) (by omega) (by omega) (fun c_113 => ?_) (fun c_113 => ?_)
                  · refine wa_iconst (0) dX10_mark_120 (by decide) ?_
                    refine wa_iadd dX10_mark_121 ?_
                    exact wa_iret dX10_mark_122 rfl ⟨congrArg (fun z => some (Value.int z)) (by first | (rw [if_neg (show ¬ 1 < w by omega), if_neg (show ¬ 1 < h by omega)]; rfl) | (rw [if_neg (show ¬ 1 < w by omega), if_pos (show 1 < h by omega)]; rfl) | (rw [if_pos (show 1 < w by omega), if_neg (show ¬ 1 < h by omega)]; rfl) | (rw [if_pos (show 1 < w by omega), if_pos (show 1 < h by omega)]; rfl)), rfl⟩
                  · refine wa_iconst (1) dX10_mark_116 (by decide) ?_
                    refine wa_goto 121 dX10_mark_117 (by decide) ?_
                    refine wa_iadd dX10_mark_121 ?_
                    exact wa_iret dX10_mark_122 rfl ⟨congrArg (fun z => some (Value.int z)) (by first | (rw [if_neg (show ¬ 1 < w by omega), if_neg (show ¬ 1 < h by omega)]; rfl) | (rw [if_neg (show ¬ 1 < w by omega), if_pos (show 1 < h by omega)]; rfl) | (rw [if_pos (show 1 < w by omega), if_neg (show ¬ 1 < h by omega)]; rfl) | (rw [if_pos (show 1 < w by omega), if_pos (show 1 < h by omega)]; rfl)), rfl⟩
                · refine wa_iconst (1) dX10_mark_103 (by decide) ?_
                  refine wa_goto 108 dX10_mark_104 (by decide) ?_
                  refine wa_aload_n dX10_mark_108 rfl 0 rfl ?_
                  refine wa_geti gX10_mark_109 (rfl) rfl ?_
                  refine wa_eqi (y := (nI (h))) (x11) ?_
                  refine wa_iconst (1) dX10_mark_112 (by decide) ?_
                  refine wa_icmp_leN (a := h) (b := 1) 120 dX10_mark_113 (by decide) (by omega) (by omega) (fun c_113 => ?_) (fun c_113 => ?_)
                  · refine wa_iconst (0) dX10_mark_120 (by decide) ?_
                    refine wa_iadd dX10_mark_121 ?_
                    exact wa_iret dX10_mark_122 rfl ⟨congrArg (fun z => some (Value.int z)) (by first | (rw [if_neg (show ¬ 1 < w by omega), if_neg (show ¬ 1 < h by omega)]; rfl) | (rw [if_neg (show ¬ 1 < w by omega), if_pos (show 1 < h by omega)]; rfl) | (rw [if_pos (show 1 < w by omega), if_neg (show ¬ 1 < h by omega)]; rfl) | (rw [if_pos (show 1 < w by omega), if_pos (show 1 < h by omega)]; rfl)), rfl⟩
                  · refine wa_iconst (1) dX10_mark_116 (by decide) ?_
                    refine wa_goto 121 dX10_mark_117 (by decide) ?_
                    refine wa_iadd dX10_mark_121 ?_
                    exact wa_iret dX10_mark_122 rfl ⟨congrArg (fun z => some (Value.int z)) (by first | (rw [if_neg (show ¬ 1 < w by omega), if_neg (show ¬ 1 < h by omega)]; rfl) | (rw [if_neg (show ¬ 1 < w by omega), if_pos (show 1 < h by omega)]; rfl) | (rw [if_pos (show 1 < w by omega), if_neg (show ¬ 1 < h by omega)]; rfl) | (rw [if_pos (show 1 < w by omega), if_pos (show 1 < h by omega)]; rfl)), rfl⟩
              have s_58_3 : ¬ ((nI (2))) = (3) := by decide
              have s_58_4 : ¬ ((nI (2))) = (4) := by decide
              exact absurd (by decide) s_58_2
            refine wa_sub [1, 2, 3] rfl ?_
            exact L_57  
          · rcases isOf_t hof with q | ⟨q1, q2⟩ | ⟨q1, q2⟩
            · exact absurd q c_28
            · first | exact absurd q2 c_38 | exact absurd rfl c_33 | exact absurd q1 (by decide)
            · first | exact absurd q2 c_48 | exact absurd rfl c_43 | exact absurd q1 (by decide)

theorem x_mark_3 {G : wm_G} {M : wm_M} (C : wm_M) (w h : Nat) (hX : xStn C M w h) (hW : TW C w h) (k : Nat) (hk : k < w * h) (hof : isOfB (C.1 18 k) 3 = true) (hS : cStn C (w * h)) : MD G t_X10_mark [wm_r G (96), .int (nI (k)), .int (nI (3))] (M) (some (.int (nI (pcN (sSeen (fun side => decide (nI 5 >>> (nI side &&& 31) &&& 1 = 1) && !decide (C.1 19 (4 * k + side) = -1)) (fun side => (C.1 19 (4 * k + side)).toNatClampNeg) 4))))) (M) := by
  obtain ⟨x10, x11, x12, x103, x104, x105, x106⟩ := id hX
  have hn6 := TW_n hW
  have hw3 := hW.2.2.1
  have hh2 := hW.2.2.2
  refine wm_met (by decide) (Nat.le_of_ble_eq_true rfl) ?_
  show WA G t_X10_mark (fun v_ N_ => v_ = some (.int (nI (pcN (sSeen (fun side => decide (nI 5 >>> (nI side &&& 31) &&& 1 = 1) && !decide (C.1 19 (4 * k + side) = -1)) (fun side => (C.1 19 (4 * k + side)).toNatClampNeg) 4)))) ∧ N_ = M) 0 [(0, wm_r G (96)), (1, .int (nI (k))), (2, .int (nI (3)))] [] (M)
  refine wa_aload_n dX10_mark_0 rfl 0 rfl ?_
  refine wa_iload_n dX10_mark_1 rfl 1 rfl ?_
  refine wa_cVi (x_isStone C w h hX hW (nI k)) vX10_isStone iX10_mark_2 (rfl) rfl rfl rfl (Nat.le_of_ble_eq_true rfl) ⟨by decide, by decide⟩ ?_
  refine wa_eqi (y := (1)) (by rw [wIn_nI (by omega), decide_eq_true hk]; rfl) ?_
  refine wa_if_eq 17 dX10_mark_5 (by decide) (fun c_5 => absurd c_5 (by decide)) (fun c_5 => ?_)
  refine wa_iload_n dX10_mark_8 rfl 2 rfl ?_
  refine wa_iconst (1) dX10_mark_9 (by decide) ?_
  refine wa_iconst (5) dX10_mark_10 (by decide) ?_
  refine wa_cSi (x_in 3 1 5) vX10_in iX10_mark_11 rfl rfl (Nat.le_of_ble_eq_true rfl) ⟨by decide, by decide⟩ ?_
  refine wa_eqi (y := (1)) (by decide) ?_
  refine wa_if_ne 19 dX10_mark_14 (by decide) (fun c_14 => ?_) (fun c_14 => absurd c_14 (by decide))
  refine wa_aload_n dX10_mark_19 rfl 0 rfl ?_
  refine wa_getr gX10_mark_20 (rfl) rfl ?_
  refine wa_iload_n dX10_mark_23 rfl 1 rfl ?_
  refine wa_ialdN (e := k) dX10_mark_24 (rfl) (by omega) (by decide) ?_
  refine wa_eqi (y := (C.1 18 (k))) (x103 _ (by omega)) ?_
  refine wa_istore_n [(3, .int (C.1 18 (k))), (0, wm_r G (96)), (1, .int (nI (k))), (2, .int (nI (3)))] dX10_mark_25 rfl (by decide) rfl ?_
  refine wa_iload_n dX10_mark_26 rfl 0 rfl ?_
  refine wa_iload_n dX10_mark_27 rfl 3 rfl ?_
  refine wa_icmp_eq 57 dX10_mark_28 (by decide) (fun c_28 => ?_) (fun c_28 => ?_)
  · have L_57 : WA G t_X10_mark (fun v_ N_ => v_ = some (.int (nI (pcN (sSeen (fun side => decide (nI 5 >>> (nI side &&& 31) &&& 1 = 1) && !decide (C.1 19 (4 * k + side) = -1)) (fun side => (C.1 19 (4 * k + side)).toNatClampNeg) 4)))) ∧ N_ = M) 57 [(0, wm_r G (96)), (1, .int (nI (k))), (2, .int (nI (3)))] [] (M) := by
      refine wa_iload_n dX10_mark_57 rfl 2 rfl ?_
      have s_58_1 : ¬ ((nI (3))) = (1) := by decide
      have s_58_2 : ¬ ((nI (3))) = (2) := by decide
      by_cases s_58_3 : ((nI (3))) = (3)
      · rw [s_58_3]
        refine wa_tableIn 123 dX10_mark_58 (by decide) (by decide) rfl (by decide) ?_
        refine wa_aload_n dX10_mark_123 rfl 0 rfl ?_
        refine wa_iload_n dX10_mark_124 rfl 1 rfl ?_
        refine wa_iconst (5) dX10_mark_125 (by decide) ?_
        refine wa_cVi (x_unlike C w h hX hW k hk 5 (by decide) (fun i hi hb => by rcases hS.2.2 k hk i hi with ⟨q, -, -⟩ | ⟨-, x, hx, q⟩; (unfold isOfB at hof; rw [q] at hof; exact absurd hof (by decide)); exact ⟨x, hx, q⟩)) vX10_unlike iX10_mark_126 (rfl) rfl rfl rfl (Nat.le_of_ble_eq_true rfl) ⟨by decide, by decide⟩ ?_
        exact wa_iret dX10_mark_129 rfl ⟨congrArg (fun z => some (Value.int z)) (rfl), rfl⟩
      have s_58_4 : ¬ ((nI (3))) = (4) := by decide
      exact absurd (by decide) s_58_3
    refine wa_sub [1, 2, 3] rfl ?_
    exact L_57  
  · refine wa_iload_n dX10_mark_31 rfl 3 rfl ?_
    refine wa_iconst (1) dX10_mark_32 (by decide) ?_
    refine wa_icmp_neN (a := 3) (b := 1) 41 dX10_mark_33 (by decide) (by omega) (by omega) (fun c_33 => ?_) (fun c_33 => ?_)
    · refine wa_iload_n dX10_mark_41 rfl 3 rfl ?_
      refine wa_iconst (2) dX10_mark_42 (by decide) ?_
      refine wa_icmp_neN (a := 3) (b := 2) 51 dX10_mark_43 (by decide) (by omega) (by omega) (fun c_43 => ?_) (fun c_43 => ?_)
      · rcases isOf_t hof with q | ⟨q1, q2⟩ | ⟨q1, q2⟩
        · exact absurd q c_28
        · first | exact absurd q2 c_38 | exact absurd rfl c_33 | exact absurd q1 (by decide)
        · first | exact absurd q2 c_48 | exact absurd rfl c_43 | exact absurd q1 (by decide)
      · refine wa_iload_n dX10_mark_46 rfl 0 rfl ?_
        refine wa_iconst (5) dX10_mark_47 (by decide) ?_
        refine wa_icmp_eq 57 dX10_mark_48 (by decide) (fun c_48 => ?_) (fun c_48 => ?_)
        · have L_57 : WA G t_X10_mark (fun v_ N_ => v_ = some (.int (nI (pcN (sSeen (fun side => decide (nI 5 >>> (nI side &&& 31) &&& 1 = 1) && !decide (C.1 19 (4 * k + side) = -1)) (fun side => (C.1 19 (4 * k + side)).toNatClampNeg) 4)))) ∧ N_ = M) 57 [(0, wm_r G (96)), (1, .int (nI (k))), (2, .int (nI (3)))] [] (M) := by
            refine wa_iload_n dX10_mark_57 rfl 2 rfl ?_
            have s_58_1 : ¬ ((nI (3))) = (1) := by decide
            have s_58_2 : ¬ ((nI (3))) = (2) := by decide
            by_cases s_58_3 : ((nI (3))) = (3)
            · rw [s_58_3]
              refine wa_tableIn 123 dX10_mark_58 (by decide) (by decide) rfl (by decide) ?_
              refine wa_aload_n dX10_mark_123 rfl 0 rfl ?_
              refine wa_iload_n dX10_mark_124 rfl 1 rfl ?_
              refine wa_iconst (5) dX10_mark_125 (by decide) ?_
              refine wa_cVi (x_unlike C w h hX hW k hk 5 (by decide) (fun i hi hb => by rcases hS.2.2 k hk i hi with ⟨q, -, -⟩ | ⟨-, x, hx, q⟩; (unfold isOfB at hof; rw [q] at hof; exact absurd hof (by decide)); exact ⟨x, hx, q⟩)) vX10_unlike iX10_mark_126 (rfl) rfl rfl rfl (Nat.le_of_ble_eq_true rfl) ⟨by decide, by decide⟩ ?_
              exact wa_iret dX10_mark_129 rfl ⟨congrArg (fun z => some (Value.int z)) (rfl), rfl⟩
            have s_58_4 : ¬ ((nI (3))) = (4) := by decide
            exact absurd (by decide) s_58_3
          refine wa_sub [1, 2, 3] rfl ?_
          exact L_57  
        · rcases isOf_t hof with q | ⟨q1, q2⟩ | ⟨q1, q2⟩
          · exact absurd q c_28
          · first | exact absurd q2 c_38 | exact absurd rfl c_33 | exact absurd q1 (by decide)
          · first | exact absurd q2 c_48 | exact absurd rfl c_43 | exact absurd q1 (by decide)
    · refine wa_iload_n dX10_mark_36 rfl 0 rfl ?_
      refine wa_iconst (4) dX10_mark_37 (by decide) ?_
      refine wa_icmp_eq 57 dX10_mark_38 (by decide) (fun c_38 => ?_) (fun c_38 => ?_)
      · have L_57 : WA G t_X10_mark (fun v_ N_ => v_ = some (.int (nI (pcN (sSeen (fun side => decide (nI 5 >>> (nI side &&& 31) &&& 1 = 1) && !decide (C.1 19 (4 * k + side) = -1)) (fun side => (C.1 19 (4 * k + side)).toNatClampNeg) 4)))) ∧ N_ = M) 57 [(0, wm_r G (96)), (1, .int (nI (k))), (2, .int (nI (3)))] [] (M) := by
          refine wa_iload_n dX10_mark_57 rfl 2 rfl ?_
          have s_58_1 : ¬ ((nI (3))) = (1) := by decide
          have s_58_2 : ¬ ((nI (3))) = (2) := by decide
          by_cases s_58_3 : ((nI (3))) = (3)
          · rw [s_58_3]
            refine wa_tableIn 123 dX10_mark_58 (by decide) (by decide) rfl (by decide) ?_
            refine wa_aload_n dX10_mark_123 rfl 0 rfl ?_
            refine wa_iload_n dX10_mark_124 rfl 1 rfl ?_
            refine wa_iconst (5) dX10_mark_125 (by decide) ?_
            refine wa_cVi (x_unlike C w h hX hW k hk 5 (by decide) (fun i hi hb => by rcases hS.2.2 k hk i hi with ⟨q, -, -⟩ | ⟨-, x, hx, q⟩; (unfold isOfB at hof; rw [q] at hof; exact absurd hof (by decide)); exact ⟨x, hx, q⟩)) vX10_unlike iX10_mark_126 (rfl) rfl rfl rfl (Nat.le_of_ble_eq_true rfl) ⟨by decide, by decide⟩ ?_
            exact wa_iret dX10_mark_129 rfl ⟨congrArg (fun z => some (Value.int z)) (rfl), rfl⟩
          have s_58_4 : ¬ ((nI (3))) = (4) := by decide
          exact absurd (by decide) s_58_3
        refine wa_sub [1, 2, 3] rfl ?_
        exact L_57  
      · refine wa_iload_n dX10_mark_41 rfl 3 rfl ?_
        refine wa_iconst (2) dX10_mark_42 (by decide) ?_
        refine wa_icmp_neN (a := 3) (b := 2) 51 dX10_mark_43 (by decide) (by omega) (by omega) (fun c_43 => ?_) (fun c_43 => ?_)
        · rcases isOf_t hof with q | ⟨q1, q2⟩ | ⟨q1, q2⟩
          · exact absurd q c_28
          · first | exact absurd q2 c_38 | exact absurd rfl c_33 | exact absurd q1 (by decide)
          · first | exact absurd q2 c_48 | exact absurd rfl c_43 | exact absurd q1 (by decide)
        · refine wa_iload_n dX10_mark_46 rfl 0 rfl ?_
          refine wa_iconst (5) dX10_mark_47 (by decide) ?_
          refine wa_icmp_eq 57 dX10_mark_48 (by decide) (fun c_48 => ?_) (fun c_48 => ?_)
          · have L_57 : WA G t_X10_mark (fun v_ N_ => v_ = some (.int (nI (pcN (sSeen (fun side => decide (nI 5 >>> (nI side &&& 31) &&& 1 = 1) && !decide (C.1 19 (4 * k + side) = -1)) (fun side => (C.1 19 (4 * k + side)).toNatClampNeg) 4)))) ∧ N_ = M) 57 [(0, wm_r G (96)), (1, .int (nI (k))), (2, .int (nI (3)))] [] (M) := by
              refine wa_iload_n dX10_mark_57 rfl 2 rfl ?_
              have s_58_1 : ¬ ((nI (3))) = (1) := by decide
              have s_58_2 : ¬ ((nI (3))) = (2) := by decide
              by_cases s_58_3 : ((nI (3))) = (3)
              · rw [s_58_3]
                refine wa_tableIn 123 dX10_mark_58 (by decide) (by decide) rfl (by decide) ?_
                refine wa_aload_n dX10_mark_123 rfl 0 rfl ?_
                refine wa_iload_n dX10_mark_124 rfl 1 rfl ?_
                refine wa_iconst (5) dX10_mark_125 (by decide) ?_
                refine wa_cVi (x_unlike C w h hX hW k hk 5 (by decide) (fun i hi hb => by rcases hS.2.2 k hk i hi with ⟨q, -, -⟩ | ⟨-, x, hx, q⟩; (unfold isOfB at hof; rw [q] at hof; exact absurd hof (by decide)); exact ⟨x, hx, q⟩)) vX10_unlike iX10_mark_126 (rfl) rfl rfl rfl (Nat.le_of_ble_eq_true rfl) ⟨by decide, by decide⟩ ?_
                exact wa_iret dX10_mark_129 rfl ⟨congrArg (fun z => some (Value.int z)) (rfl), rfl⟩
              have s_58_4 : ¬ ((nI (3))) = (4) := by decide
              exact absurd (by decide) s_58_3
            refine wa_sub [1, 2, 3] rfl ?_
            exact L_57  
          · rcases isOf_t hof with q | ⟨q1, q2⟩ | ⟨q1, q2⟩
            · exact absurd q c_28
            · first | exact absurd q2 c_38 | exact absurd rfl c_33 | exact absurd q1 (by decide)
            · first | exact absurd q2 c_48 | exact absurd rfl c_43 | exact absurd q1 (by decide)

theorem x_mark_4 {G : wm_G} {M : wm_M} (C : wm_M) (w h : Nat) (hX : xStn C M w h) (hW : TW C w h) (k : Nat) (hk : k < w * h) (hof : isOfB (C.1 18 k) 4 = true) (hS : cStn C (w * h)) (sd : Nat) (hd4 : sd < 4) (hsd : C.1 20 k = nI sd) : MD G t_X10_mark [wm_r G (96), .int (nI (k)), .int (nI (4))] (M) (some (.int (nI (pcN (sSeen (fun side => decide (nI (15 - 2 ^ sd) >>> (nI side &&& 31) &&& 1 = 1) && !decide (C.1 19 (4 * k + side) = -1)) (fun side => (C.1 19 (4 * k + side)).toNatClampNeg) 4))))) (M) := by
  obtain ⟨x10, x11, x12, x103, x104, x105, x106⟩ := id hX
  have hn6 := TW_n hW
  have hw3 := hW.2.2.1
  have hh2 := hW.2.2.2
  refine wm_met (by decide) (Nat.le_of_ble_eq_true rfl) ?_
  show WA G t_X10_mark (fun v_ N_ => v_ = some (.int (nI (pcN (sSeen (fun side => decide (nI (15 - 2 ^ sd) >>> (nI side &&& 31) &&& 1 = 1) && !decide (C.1 19 (4 * k + side) = -1)) (fun side => (C.1 19 (4 * k + side)).toNatClampNeg) 4)))) ∧ N_ = M) 0 [(0, wm_r G (96)), (1, .int (nI (k))), (2, .int (nI (4)))] [] (M)
  refine wa_aload_n dX10_mark_0 rfl 0 rfl ?_
  refine wa_iload_n dX10_mark_1 rfl 1 rfl ?_
  refine wa_cVi (x_isStone C w h hX hW (nI k)) vX10_isStone iX10_mark_2 (rfl) rfl rfl rfl (Nat.le_of_ble_eq_true rfl) ⟨by decide, by decide⟩ ?_
  refine wa_eqi (y := (1)) (by rw [wIn_nI (by omega), decide_eq_true hk]; rfl) ?_
  refine wa_if_eq 17 dX10_mark_5 (by decide) (fun c_5 => absurd c_5 (by decide)) (fun c_5 => ?_)
  refine wa_iload_n dX10_mark_8 rfl 2 rfl ?_
  refine wa_iconst (1) dX10_mark_9 (by decide) ?_
  refine wa_iconst (5) dX10_mark_10 (by decide) ?_
  refine wa_cSi (x_in 4 1 5) vX10_in iX10_mark_11 rfl rfl (Nat.le_of_ble_eq_true rfl) ⟨by decide, by decide⟩ ?_
  refine wa_eqi (y := (1)) (by decide) ?_
  refine wa_if_ne 19 dX10_mark_14 (by decide) (fun c_14 => ?_) (fun c_14 => absurd c_14 (by decide))
  refine wa_aload_n dX10_mark_19 rfl 0 rfl ?_
  refine wa_getr gX10_mark_20 (rfl) rfl ?_
  refine wa_iload_n dX10_mark_23 rfl 1 rfl ?_
  refine wa_ialdN (e := k) dX10_mark_24 (rfl) (by omega) (by decide) ?_
  refine wa_eqi (y := (C.1 18 (k))) (x103 _ (by omega)) ?_
  refine wa_istore_n [(3, .int (C.1 18 (k))), (0, wm_r G (96)), (1, .int (nI (k))), (2, .int (nI (4)))] dX10_mark_25 rfl (by decide) rfl ?_
  refine wa_iload_n dX10_mark_26 rfl 0 rfl ?_
  refine wa_iload_n dX10_mark_27 rfl 3 rfl ?_
  refine wa_icmp_eq 57 dX10_mark_28 (by decide) (fun c_28 => ?_) (fun c_28 => ?_)
  · have L_57 : WA G t_X10_mark (fun v_ N_ => v_ = some (.int (nI (pcN (sSeen (fun side => decide (nI (15 - 2 ^ sd) >>> (nI side &&& 31) &&& 1 = 1) && !decide (C.1 19 (4 * k + side) = -1)) (fun side => (C.1 19 (4 * k + side)).toNatClampNeg) 4)))) ∧ N_ = M) 57 [(0, wm_r G (96)), (1, .int (nI (k))), (2, .int (nI (4)))] [] (M) := by
      refine wa_iload_n dX10_mark_57 rfl 2 rfl ?_
      have s_58_1 : ¬ ((nI (4))) = (1) := by decide
      have s_58_2 : ¬ ((nI (4))) = (2) := by decide
      have s_58_3 : ¬ ((nI (4))) = (3) := by decide
      by_cases s_58_4 : ((nI (4))) = (4)
      · rw [s_58_4]
        refine wa_tableIn 130 dX10_mark_58 (by decide) (by decide) rfl (by decide) ?_
        refine wa_aload_n dX10_mark_130 rfl 0 rfl ?_
        refine wa_iload_n dX10_mark_131 rfl 1 rfl ?_
        refine wa_bipush (15) dX10_mark_132 (by decide) ?_
        refine wa_iconst (1) dX10_mark_134 (by decide) ?_
        refine wa_aload_n dX10_mark_135 rfl 0 rfl ?_
        refine wa_getr gX10_mark_136 (rfl) rfl ?_
        refine wa_iload_n dX10_mark_139 rfl 1 rfl ?_
        refine wa_ialdN (e := k) dX10_mark_140 (rfl) (by omega) (by decide) ?_
        refine wa_eqi (y := (nI (sd))) ((x105 _ hk).trans hsd) ?_
        refine wa_ishl dX10_mark_141 ?_
        refine wa_iconst (-1) dX10_mark_142 (by decide) ?_
        refine wa_ixor dX10_mark_143 ?_
        refine wa_iand dX10_mark_144 ?_
        refine wa_eqi (y := (nI (15 - 2 ^ sd))) (msk sd hd4) ?_
        refine wa_cVi (x_unlike C w h hX hW k hk (15 - 2 ^ sd) (Nat.lt_of_le_of_lt (Nat.sub_le _ _) (by decide)) (fun i hi hb => by rcases hS.2.2 k hk i hi with ⟨-, q, -⟩ | ⟨-, x, hx, q⟩; (rw [hsd] at q; have := (nI_eq (by omega) (by omega)).mp q; subst this; exact absurd hb (by rw [tb_msk sd hd4]; decide)); exact ⟨x, hx, q⟩)) vX10_unlike iX10_mark_145 (rfl) rfl rfl rfl (Nat.le_of_ble_eq_true rfl) ⟨by decide, by decide⟩ ?_
        exact wa_iret dX10_mark_148 rfl ⟨congrArg (fun z => some (Value.int z)) (rfl), rfl⟩
      exact absurd (by decide) s_58_4
    refine wa_sub [1, 2, 3] rfl ?_
    exact L_57  
  · refine wa_iload_n dX10_mark_31 rfl 3 rfl ?_
    refine wa_iconst (1) dX10_mark_32 (by decide) ?_
    refine wa_icmp_neN (a := 4) (b := 1) 41 dX10_mark_33 (by decide) (by omega) (by omega) (fun c_33 => ?_) (fun c_33 => ?_)
    · refine wa_iload_n dX10_mark_41 rfl 3 rfl ?_
      refine wa_iconst (2) dX10_mark_42 (by decide) ?_
      refine wa_icmp_neN (a := 4) (b := 2) 51 dX10_mark_43 (by decide) (by omega) (by omega) (fun c_43 => ?_) (fun c_43 => ?_)
      · rcases isOf_t hof with q | ⟨q1, q2⟩ | ⟨q1, q2⟩
        · exact absurd q c_28
        · first | exact absurd q2 c_38 | exact absurd rfl c_33 | exact absurd q1 (by decide)
        · first | exact absurd q2 c_48 | exact absurd rfl c_43 | exact absurd q1 (by decide)
      · refine wa_iload_n dX10_mark_46 rfl 0 rfl ?_
        refine wa_iconst (5) dX10_mark_47 (by decide) ?_
        refine wa_icmp_eq 57 dX10_mark_48 (by decide) (fun c_48 => ?_) (fun c_48 => ?_)
        · have L_57 : WA G t_X10_mark (fun v_ N_ => v_ = some (.int (nI (pcN (sSeen (fun side => decide (nI (15 - 2 ^ sd) >>> (nI side &&& 31) &&& 1 = 1) && !decide (C.1 19 (4 * k + side) = -1)) (fun side => (C.1 19 (4 * k + side)).toNatClampNeg) 4)))) ∧ N_ = M) 57 [(0, wm_r G (96)), (1, .int (nI (k))), (2, .int (nI (4)))] [] (M) := by
            refine wa_iload_n dX10_mark_57 rfl 2 rfl ?_
            have s_58_1 : ¬ ((nI (4))) = (1) := by decide
            have s_58_2 : ¬ ((nI (4))) = (2) := by decide
            have s_58_3 : ¬ ((nI (4))) = (3) := by decide
            by_cases s_58_4 : ((nI (4))) = (4)
            · rw [s_58_4]
              refine wa_tableIn 130 dX10_mark_58 (by decide) (by decide) rfl (by decide) ?_
              refine wa_aload_n dX10_mark_130 rfl 0 rfl ?_
              refine wa_iload_n dX10_mark_131 rfl 1 rfl ?_
              refine wa_bipush (15) dX10_mark_132 (by decide) ?_
              refine wa_iconst (1) dX10_mark_134 (by decide) ?_
              refine wa_aload_n dX10_mark_135 rfl 0 rfl ?_
              refine wa_getr gX10_mark_136 (rfl) rfl ?_
              refine wa_iload_n dX10_mark_139 rfl 1 rfl ?_
              refine wa_ialdN (e := k) dX10_mark_140 (rfl) (by omega) (by decide) ?_
              refine wa_eqi (y := (nI (sd))) ((x105 _ hk).trans hsd) ?_
              refine wa_ishl dX10_mark_141 ?_
              refine wa_iconst (-1) dX10_mark_142 (by decide) ?_
              refine wa_ixor dX10_mark_143 ?_
              refine wa_iand dX10_mark_144 ?_
              refine wa_eqi (y := (nI (15 - 2 ^ sd))) (msk sd hd4) ?_
              refine wa_cVi (x_unlike C w h hX hW k hk (15 - 2 ^ sd) (Nat.lt_of_le_of_lt (Nat.sub_le _ _) (by decide)) (fun i hi hb => by rcases hS.2.2 k hk i hi with ⟨-, q, -⟩ | ⟨-, x, hx, q⟩; (rw [hsd] at q; have := (nI_eq (by omega) (by omega)).mp q; subst this; exact absurd hb (by rw [tb_msk sd hd4]; decide)); exact ⟨x, hx, q⟩)) vX10_unlike iX10_mark_145 (rfl) rfl rfl rfl (Nat.le_of_ble_eq_true rfl) ⟨by decide, by decide⟩ ?_
              exact wa_iret dX10_mark_148 rfl ⟨congrArg (fun z => some (Value.int z)) (rfl), rfl⟩
            exact absurd (by decide) s_58_4
          refine wa_sub [1, 2, 3] rfl ?_
          exact L_57  
        · rcases isOf_t hof with q | ⟨q1, q2⟩ | ⟨q1, q2⟩
          · exact absurd q c_28
          · first | exact absurd q2 c_38 | exact absurd rfl c_33 | exact absurd q1 (by decide)
          · first | exact absurd q2 c_48 | exact absurd rfl c_43 | exact absurd q1 (by decide)
    · refine wa_iload_n dX10_mark_36 rfl 0 rfl ?_
      refine wa_iconst (4) dX10_mark_37 (by decide) ?_
      refine wa_icmp_eq 57 dX10_mark_38 (by decide) (fun c_38 => ?_) (fun c_38 => ?_)
      · have L_57 : WA G t_X10_mark (fun v_ N_ => v_ = some (.int (nI (pcN (sSeen (fun side => decide (nI (15 - 2 ^ sd) >>> (nI side &&& 31) &&& 1 = 1) && !decide (C.1 19 (4 * k + side) = -1)) (fun side => (C.1 19 (4 * k + side)).toNatClampNeg) 4)))) ∧ N_ = M) 57 [(0, wm_r G (96)), (1, .int (nI (k))), (2, .int (nI (4)))] [] (M) := by
          refine wa_iload_n dX10_mark_57 rfl 2 rfl ?_
          have s_58_1 : ¬ ((nI (4))) = (1) := by decide
          have s_58_2 : ¬ ((nI (4))) = (2) := by decide
          have s_58_3 : ¬ ((nI (4))) = (3) := by decide
          by_cases s_58_4 : ((nI (4))) = (4)
          · rw [s_58_4]
            refine wa_tableIn 130 dX10_mark_58 (by decide) (by decide) rfl (by decide) ?_
            refine wa_aload_n dX10_mark_130 rfl 0 rfl ?_
            refine wa_iload_n dX10_mark_131 rfl 1 rfl ?_
            refine wa_bipush (15) dX10_mark_132 (by decide) ?_
            refine wa_iconst (1) dX10_mark_134 (by decide) ?_
            refine wa_aload_n dX10_mark_135 rfl 0 rfl ?_
            refine wa_getr gX10_mark_136 (rfl) rfl ?_
            refine wa_iload_n dX10_mark_139 rfl 1 rfl ?_
            refine wa_ialdN (e := k) dX10_mark_140 (rfl) (by omega) (by decide) ?_
            refine wa_eqi (y := (nI (sd))) ((x105 _ hk).trans hsd) ?_
            refine wa_ishl dX10_mark_141 ?_
            refine wa_iconst (-1) dX10_mark_142 (by decide) ?_
            refine wa_ixor dX10_mark_143 ?_
            refine wa_iand dX10_mark_144 ?_
            refine wa_eqi (y := (nI (15 - 2 ^ sd))) (msk sd hd4) ?_
            refine wa_cVi (x_unlike C w h hX hW k hk (15 - 2 ^ sd) (Nat.lt_of_le_of_lt (Nat.sub_le _ _) (by decide)) (fun i hi hb => by rcases hS.2.2 k hk i hi with ⟨-, q, -⟩ | ⟨-, x, hx, q⟩; (rw [hsd] at q; have := (nI_eq (by omega) (by omega)).mp q; subst this; exact absurd hb (by rw [tb_msk sd hd4]; decide)); exact ⟨x, hx, q⟩)) vX10_unlike iX10_mark_145 (rfl) rfl rfl rfl (Nat.le_of_ble_eq_true rfl) ⟨by decide, by decide⟩ ?_
            exact wa_iret dX10_mark_148 rfl ⟨congrArg (fun z => some (Value.int z)) (rfl), rfl⟩
          exact absurd (by decide) s_58_4
        refine wa_sub [1, 2, 3] rfl ?_
        exact L_57  
      · refine wa_iload_n dX10_mark_41 rfl 3 rfl ?_
        refine wa_iconst (2) dX10_mark_42 (by decide) ?_
        refine wa_icmp_neN (a := 4) (b := 2) 51 dX10_mark_43 (by decide) (by omega) (by omega) (fun c_43 => ?_) (fun c_43 => ?_)
        · rcases isOf_t hof with q | ⟨q1, q2⟩ | ⟨q1, q2⟩
          · exact absurd q c_28
          · first | exact absurd q2 c_38 | exact absurd rfl c_33 | exact absurd q1 (by decide)
          · first | exact absurd q2 c_48 | exact absurd rfl c_43 | exact absurd q1 (by decide)
        · refine wa_iload_n dX10_mark_46 rfl 0 rfl ?_
          refine wa_iconst (5) dX10_mark_47 (by decide) ?_
          refine wa_icmp_eq 57 dX10_mark_48 (by decide) (fun c_48 => ?_) (fun c_48 => ?_)
          · have L_57 : WA G t_X10_mark (fun v_ N_ => v_ = some (.int (nI (pcN (sSeen (fun side => decide (nI (15 - 2 ^ sd) >>> (nI side &&& 31) &&& 1 = 1) && !decide (C.1 19 (4 * k + side) = -1)) (fun side => (C.1 19 (4 * k + side)).toNatClampNeg) 4)))) ∧ N_ = M) 57 [(0, wm_r G (96)), (1, .int (nI (k))), (2, .int (nI (4)))] [] (M) := by
              refine wa_iload_n dX10_mark_57 rfl 2 rfl ?_
              have s_58_1 : ¬ ((nI (4))) = (1) := by decide
              have s_58_2 : ¬ ((nI (4))) = (2) := by decide
              have s_58_3 : ¬ ((nI (4))) = (3) := by decide
              by_cases s_58_4 : ((nI (4))) = (4)
              · rw [s_58_4]
                refine wa_tableIn 130 dX10_mark_58 (by decide) (by decide) rfl (by decide) ?_
                refine wa_aload_n dX10_mark_130 rfl 0 rfl ?_
                refine wa_iload_n dX10_mark_131 rfl 1 rfl ?_
                refine wa_bipush (15) dX10_mark_132 (by decide) ?_
                refine wa_iconst (1) dX10_mark_134 (by decide) ?_
                refine wa_aload_n dX10_mark_135 rfl 0 rfl ?_
                refine wa_getr gX10_mark_136 (rfl) rfl ?_
                refine wa_iload_n dX10_mark_139 rfl 1 rfl ?_
                refine wa_ialdN (e := k) dX10_mark_140 (rfl) (by omega) (by decide) ?_
                refine wa_eqi (y := (nI (sd))) ((x105 _ hk).trans hsd) ?_
                refine wa_ishl dX10_mark_141 ?_
                refine wa_iconst (-1) dX10_mark_142 (by decide) ?_
                refine wa_ixor dX10_mark_143 ?_
                refine wa_iand dX10_mark_144 ?_
                refine wa_eqi (y := (nI (15 - 2 ^ sd))) (msk sd hd4) ?_
                refine wa_cVi (x_unlike C w h hX hW k hk (15 - 2 ^ sd) (Nat.lt_of_le_of_lt (Nat.sub_le _ _) (by decide)) (fun i hi hb => by rcases hS.2.2 k hk i hi with ⟨-, q, -⟩ | ⟨-, x, hx, q⟩; (rw [hsd] at q; have := (nI_eq (by omega) (by omega)).mp q; subst this; exact absurd hb (by rw [tb_msk sd hd4]; decide)); exact ⟨x, hx, q⟩)) vX10_unlike iX10_mark_145 (rfl) rfl rfl rfl (Nat.le_of_ble_eq_true rfl) ⟨by decide, by decide⟩ ?_
                exact wa_iret dX10_mark_148 rfl ⟨congrArg (fun z => some (Value.int z)) (rfl), rfl⟩
              exact absurd (by decide) s_58_4
            refine wa_sub [1, 2, 3] rfl ?_
            exact L_57  
          · rcases isOf_t hof with q | ⟨q1, q2⟩ | ⟨q1, q2⟩
            · exact absurd q c_28
            · first | exact absurd q2 c_38 | exact absurd rfl c_33 | exact absurd q1 (by decide)
            · first | exact absurd q2 c_48 | exact absurd rfl c_43 | exact absurd q1 (by decide)

theorem x_mark_5 {G : wm_G} {M : wm_M} (C : wm_M) (w h : Nat) (hX : xStn C M w h) (hW : TW C w h) (k : Nat) (hk : k < w * h) (hof : isOfB (C.1 18 k) 5 = true) : MD G t_X10_mark [wm_r G (96), .int (nI (k)), .int (nI (5))] (M) (some (.int (nI (k / w)))) (M) := by
  obtain ⟨x10, x11, x12, x103, x104, x105, x106⟩ := id hX
  have hn6 := TW_n hW
  have hw3 := hW.2.2.1
  have hh2 := hW.2.2.2
  have hw0 : 0 < w := by rcases Nat.eq_zero_or_pos w with q | q; (subst q; rw [Nat.zero_mul] at hk; omega); exact q
  refine wm_met (by decide) (Nat.le_of_ble_eq_true rfl) ?_
  show WA G t_X10_mark (fun v_ N_ => v_ = some (.int (nI (k / w))) ∧ N_ = M) 0 [(0, wm_r G (96)), (1, .int (nI (k))), (2, .int (nI (5)))] [] (M)
  refine wa_aload_n dX10_mark_0 rfl 0 rfl ?_
  refine wa_iload_n dX10_mark_1 rfl 1 rfl ?_
  refine wa_cVi (x_isStone C w h hX hW (nI k)) vX10_isStone iX10_mark_2 (rfl) rfl rfl rfl (Nat.le_of_ble_eq_true rfl) ⟨by decide, by decide⟩ ?_
  refine wa_eqi (y := (1)) (by rw [wIn_nI (by omega), decide_eq_true hk]; rfl) ?_
  refine wa_if_eq 17 dX10_mark_5 (by decide) (fun c_5 => absurd c_5 (by decide)) (fun c_5 => ?_)
  refine wa_iload_n dX10_mark_8 rfl 2 rfl ?_
  refine wa_iconst (1) dX10_mark_9 (by decide) ?_
  refine wa_iconst (5) dX10_mark_10 (by decide) ?_
  refine wa_cSi (x_in 5 1 5) vX10_in iX10_mark_11 rfl rfl (Nat.le_of_ble_eq_true rfl) ⟨by decide, by decide⟩ ?_
  refine wa_eqi (y := (1)) (by decide) ?_
  refine wa_if_ne 19 dX10_mark_14 (by decide) (fun c_14 => ?_) (fun c_14 => absurd c_14 (by decide))
  refine wa_aload_n dX10_mark_19 rfl 0 rfl ?_
  refine wa_getr gX10_mark_20 (rfl) rfl ?_
  refine wa_iload_n dX10_mark_23 rfl 1 rfl ?_
  refine wa_ialdN (e := k) dX10_mark_24 (rfl) (by omega) (by decide) ?_
  refine wa_eqi (y := (C.1 18 (k))) (x103 _ (by omega)) ?_
  refine wa_istore_n [(3, .int (C.1 18 (k))), (0, wm_r G (96)), (1, .int (nI (k))), (2, .int (nI (5)))] dX10_mark_25 rfl (by decide) rfl ?_
  refine wa_iload_n dX10_mark_26 rfl 0 rfl ?_
  refine wa_iload_n dX10_mark_27 rfl 3 rfl ?_
  refine wa_icmp_eq 57 dX10_mark_28 (by decide) (fun c_28 => ?_) (fun c_28 => ?_)
  · have L_57 : WA G t_X10_mark (fun v_ N_ => v_ = some (.int (nI (k / w))) ∧ N_ = M) 57 [(0, wm_r G (96)), (1, .int (nI (k))), (2, .int (nI (5)))] [] (M) := by
      refine wa_iload_n dX10_mark_57 rfl 2 rfl ?_
      have s_58_1 : ¬ ((nI (5))) = (1) := by decide
      have s_58_2 : ¬ ((nI (5))) = (2) := by decide
      have s_58_3 : ¬ ((nI (5))) = (3) := by decide
      have s_58_4 : ¬ ((nI (5))) = (4) := by decide
      refine wa_tableOut 149 dX10_mark_58 (by decide) (by decide) ?_
      refine wa_iload_n dX10_mark_149 rfl 1 rfl ?_
      refine wa_aload_n dX10_mark_150 rfl 0 rfl ?_
      refine wa_geti gX10_mark_151 (rfl) rfl ?_
      refine wa_eqi (y := (nI (w))) (x10) ?_
      refine wa_idivN (a := k) (b := w) dX10_mark_154 (by omega) (by omega) (by omega) ?_
      exact wa_iret dX10_mark_155 rfl ⟨congrArg (fun z => some (Value.int z)) (rfl), rfl⟩
    refine wa_sub [1, 2, 3] rfl ?_
    exact L_57  
  · refine wa_iload_n dX10_mark_31 rfl 3 rfl ?_
    refine wa_iconst (1) dX10_mark_32 (by decide) ?_
    refine wa_icmp_neN (a := 5) (b := 1) 41 dX10_mark_33 (by decide) (by omega) (by omega) (fun c_33 => ?_) (fun c_33 => ?_)
    · refine wa_iload_n dX10_mark_41 rfl 3 rfl ?_
      refine wa_iconst (2) dX10_mark_42 (by decide) ?_
      refine wa_icmp_neN (a := 5) (b := 2) 51 dX10_mark_43 (by decide) (by omega) (by omega) (fun c_43 => ?_) (fun c_43 => ?_)
      · rcases isOf_t hof with q | ⟨q1, q2⟩ | ⟨q1, q2⟩
        · exact absurd q c_28
        · first | exact absurd q2 c_38 | exact absurd rfl c_33 | exact absurd q1 (by decide)
        · first | exact absurd q2 c_48 | exact absurd rfl c_43 | exact absurd q1 (by decide)
      · refine wa_iload_n dX10_mark_46 rfl 0 rfl ?_
        refine wa_iconst (5) dX10_mark_47 (by decide) ?_
        refine wa_icmp_eq 57 dX10_mark_48 (by decide) (fun c_48 => ?_) (fun c_48 => ?_)
        · have L_57 : WA G t_X10_mark (fun v_ N_ => v_ = some (.int (nI (k / w))) ∧ N_ = M) 57 [(0, wm_r G (96)), (1, .int (nI (k))), (2, .int (nI (5)))] [] (M) := by
            refine wa_iload_n dX10_mark_57 rfl 2 rfl ?_
            have s_58_1 : ¬ ((nI (5))) = (1) := by decide
            have s_58_2 : ¬ ((nI (5))) = (2) := by decide
            have s_58_3 : ¬ ((nI (5))) = (3) := by decide
            have s_58_4 : ¬ ((nI (5))) = (4) := by decide
            refine wa_tableOut 149 dX10_mark_58 (by decide) (by decide) ?_
            refine wa_iload_n dX10_mark_149 rfl 1 rfl ?_
            refine wa_aload_n dX10_mark_150 rfl 0 rfl ?_
            refine wa_geti gX10_mark_151 (rfl) rfl ?_
            refine wa_eqi (y := (nI (w))) (x10) ?_
            refine wa_idivN (a := k) (b := w) dX10_mark_154 (by omega) (by omega) (by omega) ?_
            exact wa_iret dX10_mark_155 rfl ⟨congrArg (fun z => some (Value.int z)) (rfl), rfl⟩
          refine wa_sub [1, 2, 3] rfl ?_
          exact L_57  
        · rcases isOf_t hof with q | ⟨q1, q2⟩ | ⟨q1, q2⟩
          · exact absurd q c_28
          · first | exact absurd q2 c_38 | exact absurd rfl c_33 | exact absurd q1 (by decide)
          · first | exact absurd q2 c_48 | exact absurd rfl c_43 | exact absurd q1 (by decide)
    · refine wa_iload_n dX10_mark_36 rfl 0 rfl ?_
      refine wa_iconst (4) dX10_mark_37 (by decide) ?_
      refine wa_icmp_eq 57 dX10_mark_38 (by decide) (fun c_38 => ?_) (fun c_38 => ?_)
      · have L_57 : WA G t_X10_mark (fun v_ N_ => v_ = some (.int (nI (k / w))) ∧ N_ = M) 57 [(0, wm_r G (96)), (1, .int (nI (k))), (2, .int (nI (5)))] [] (M) := by
          refine wa_iload_n dX10_mark_57 rfl 2 rfl ?_
          have s_58_1 : ¬ ((nI (5))) = (1) := by decide
          have s_58_2 : ¬ ((nI (5))) = (2) := by decide
          have s_58_3 : ¬ ((nI (5))) = (3) := by decide
          have s_58_4 : ¬ ((nI (5))) = (4) := by decide
          refine wa_tableOut 149 dX10_mark_58 (by decide) (by decide) ?_
          refine wa_iload_n dX10_mark_149 rfl 1 rfl ?_
          refine wa_aload_n dX10_mark_150 rfl 0 rfl ?_
          refine wa_geti gX10_mark_151 (rfl) rfl ?_
          refine wa_eqi (y := (nI (w))) (x10) ?_
          refine wa_idivN (a := k) (b := w) dX10_mark_154 (by omega) (by omega) (by omega) ?_
          exact wa_iret dX10_mark_155 rfl ⟨congrArg (fun z => some (Value.int z)) (rfl), rfl⟩
        refine wa_sub [1, 2, 3] rfl ?_
        exact L_57  
      · refine wa_iload_n dX10_mark_41 rfl 3 rfl ?_
        refine wa_iconst (2) dX10_mark_42 (by decide) ?_
        refine wa_icmp_neN (a := 5) (b := 2) 51 dX10_mark_43 (by decide) (by omega) (by omega) (fun c_43 => ?_) (fun c_43 => ?_)
        · rcases isOf_t hof with q | ⟨q1, q2⟩ | ⟨q1, q2⟩
          · exact absurd q c_28
          · first | exact absurd q2 c_38 | exact absurd rfl c_33 | exact absurd q1 (by decide)
          · first | exact absurd q2 c_48 | exact absurd rfl c_43 | exact absurd q1 (by decide)
        · refine wa_iload_n dX10_mark_46 rfl 0 rfl ?_
          refine wa_iconst (5) dX10_mark_47 (by decide) ?_
          refine wa_icmp_eq 57 dX10_mark_48 (by decide) (fun c_48 => ?_) (fun c_48 => ?_)
          · have L_57 : WA G t_X10_mark (fun v_ N_ => v_ = some (.int (nI (k / w))) ∧ N_ = M) 57 [(0, wm_r G (96)), (1, .int (nI (k))), (2, .int (nI (5)))] [] (M) := by
              refine wa_iload_n dX10_mark_57 rfl 2 rfl ?_
              have s_58_1 : ¬ ((nI (5))) = (1) := by decide
              have s_58_2 : ¬ ((nI (5))) = (2) := by decide
              have s_58_3 : ¬ ((nI (5))) = (3) := by decide
              have s_58_4 : ¬ ((nI (5))) = (4) := by decide
              refine wa_tableOut 149 dX10_mark_58 (by decide) (by decide) ?_
              refine wa_iload_n dX10_mark_149 rfl 1 rfl ?_
              refine wa_aload_n dX10_mark_150 rfl 0 rfl ?_
              refine wa_geti gX10_mark_151 (rfl) rfl ?_
              refine wa_eqi (y := (nI (w))) (x10) ?_
              refine wa_idivN (a := k) (b := w) dX10_mark_154 (by omega) (by omega) (by omega) ?_
              exact wa_iret dX10_mark_155 rfl ⟨congrArg (fun z => some (Value.int z)) (rfl), rfl⟩
            refine wa_sub [1, 2, 3] rfl ?_
            exact L_57  
          · rcases isOf_t hof with q | ⟨q1, q2⟩ | ⟨q1, q2⟩
            · exact absurd q c_28
            · first | exact absurd q2 c_38 | exact absurd rfl c_33 | exact absurd q1 (by decide)
            · first | exact absurd q2 c_48 | exact absurd rfl c_43 | exact absurd q1 (by decide)

theorem x_streetMany {G : wm_G} {M : wm_M} (C : wm_M) (w h : Nat) (hX : xStn C M w h) (hW : TW C w h) : MD G t_X10_streetMany [wm_r G (96)] (M) (some (.int (nI (w + h)))) (M) := by
  obtain ⟨x10, x11, x12, x103, x104, x105, x106⟩ := id hX
  have hn6 := TW_n hW
  have hw3 := hW.2.2.1
  have hh2 := hW.2.2.2
  refine wm_met (by decide) (Nat.le_of_ble_eq_true rfl) ?_
  show WA G t_X10_streetMany (fun v_ N_ => v_ = some (.int (nI (w + h))) ∧ N_ = M) 0 [(0, wm_r G (96))] [] (M)
  refine wa_aload_n dX10_streetMany_0 rfl 0 rfl ?_
  refine wa_geti gX10_streetMany_1 (rfl) rfl ?_
  refine wa_eqi (y := (nI (w))) (x10) ?_
  refine wa_aload_n dX10_streetMany_4 rfl 0 rfl ?_
  refine wa_geti gX10_streetMany_5 (rfl) rfl ?_
  refine wa_eqi (y := (nI (h))) (x11) ?_
  refine wa_iaddN (a := w) (b := h) dX10_streetMany_8 ?_
  exact wa_iret dX10_streetMany_9 rfl ⟨congrArg (fun z => some (Value.int z)) (rfl), rfl⟩

theorem x_isStreet {G : wm_G} {M : wm_M} (C : wm_M) (w h : Nat) (hX : xStn C M w h) (hW : TW C w h) (st : Int32) : MD G t_X10_isStreet [wm_r G (96), .int (st)] (M) (some (.int (wB (wIn st (w + h))))) (M) := by
  obtain ⟨x10, x11, x12, x103, x104, x105, x106⟩ := id hX
  have hn6 := TW_n hW
  have hw3 := hW.2.2.1
  have hh2 := hW.2.2.2
  refine wm_met (by decide) (Nat.le_of_ble_eq_true rfl) ?_
  show WA G t_X10_isStreet (fun v_ N_ => v_ = some (.int (wB (wIn st (w + h)))) ∧ N_ = M) 0 [(0, wm_r G (96)), (1, .int (st))] [] (M)
  refine wa_iload_n dX10_isStreet_0 rfl 1 rfl ?_
  refine wa_iconst (0) dX10_isStreet_1 (by decide) ?_
  refine wa_aload_n dX10_isStreet_2 rfl 0 rfl ?_
  refine wa_cVi (x_streetMany C w h hX hW) vX10_streetMany iX10_isStreet_3 (rfl) rfl rfl rfl (Nat.le_of_ble_eq_true rfl) ⟨by decide, by decide⟩ ?_
  refine wa_iconst (1) dX10_isStreet_6 (by decide) ?_
  refine wa_isub dX10_isStreet_7 ?_
  refine wa_cSi (x_in st 0 (nI (w + h) - 1)) vX10_in iX10_isStreet_8 rfl rfl (Nat.le_of_ble_eq_true rfl) ⟨by decide, by decide⟩ ?_
  refine wa_eqi (y := (wB (wIn st (w + h)))) (congrArg wB (inC_z (by omega))) ?_
  exact wa_zretB dX10_isStreet_11 rfl ⟨congrArg (fun z => some (Value.int z)) (rfl), rfl⟩

theorem x_longOf {G : wm_G} {M : wm_M} (C : wm_M) (w h : Nat) (hX : xStn C M w h) (hW : TW C w h) (st : Nat) (hst : st < 100) : MD G t_X10_longOf [wm_r G (96), .int (nI (st))] (M) (some (.int (nI (sLen w h st)))) (M) := by
  obtain ⟨x10, x11, x12, x103, x104, x105, x106⟩ := id hX
  have hn6 := TW_n hW
  have hw3 := hW.2.2.1
  have hh2 := hW.2.2.2
  refine wm_met (by decide) (Nat.le_of_ble_eq_true rfl) ?_
  show WA G t_X10_longOf (fun v_ N_ => v_ = some (.int (nI (sLen w h st))) ∧ N_ = M) 0 [(0, wm_r G (96)), (1, .int (nI (st)))] [] (M)
  refine wa_iload_n dX10_longOf_0 rfl 1 rfl ?_
  refine wa_aload_n dX10_longOf_1 rfl 0 rfl ?_
  refine wa_geti gX10_longOf_2 (rfl) rfl ?_
  refine wa_eqi (y := (nI (h))) (x11) ?_
  refine wa_icmp_geN (a := st) (b := h) 15 dX10_longOf_5 (by decide) (by omega) (by omega) (fun c_5 => ?_) (fun c_5 => ?_)
  · refine wa_aload_n dX10_longOf_15 rfl 0 rfl ?_
    refine wa_geti gX10_longOf_16 (rfl) rfl ?_
    refine wa_eqi (y := (nI (h))) (x11) ?_
    exact wa_iret dX10_longOf_19 rfl ⟨congrArg (fun z => some (Value.int z)) (by unfold sLen; first | (rw [if_pos (by omega)]; done) | (rw [if_neg (by omega)]; done)), rfl⟩
  · refine wa_aload_n dX10_longOf_8 rfl 0 rfl ?_
    refine wa_geti gX10_longOf_9 (rfl) rfl ?_
    refine wa_eqi (y := (nI (w))) (x10) ?_
    refine wa_goto 19 dX10_longOf_12 (by decide) ?_
    exact wa_iret dX10_longOf_19 rfl ⟨congrArg (fun z => some (Value.int z)) (by unfold sLen; first | (rw [if_pos (by omega)]; done) | (rw [if_neg (by omega)]; done)), rfl⟩

theorem x_stoneAt {G : wm_G} {M : wm_M} (C : wm_M) (w h : Nat) (hX : xStn C M w h) (hW : TW C w h) (st e i : Nat) (hst : st < w + h) (he : e < 2) (hi : i < sLen w h st) : MD G t_X10_stoneAt [wm_r G (96), .int (nI (st)), .int (nI (e)), .int (nI (i))] (M) (some (.int (nI (sAt w h st e i)))) (M) := by
  obtain ⟨x10, x11, x12, x103, x104, x105, x106⟩ := id hX
  have hn6 := TW_n hW
  have hw3 := hW.2.2.1
  have hh2 := hW.2.2.2
  have hlen : sLen w h st ≤ 3 := by unfold sLen; split <;> omega
  have hat := sAt_lt (e := e) hst hi
  refine wm_met (by decide) (Nat.le_of_ble_eq_true rfl) ?_
  show WA G t_X10_stoneAt (fun v_ N_ => v_ = some (.int (nI (sAt w h st e i))) ∧ N_ = M) 0 [(0, wm_r G (96)), (1, .int (nI (st))), (2, .int (nI (e))), (3, .int (nI (i)))] [] (M)
  refine wa_iload_n dX10_stoneAt_0 rfl 2 rfl ?_
  refine wa_if_neN (a := e) 8 dX10_stoneAt_1 (by decide) (by omega) (fun c_1 => ?_) (fun c_1 => ?_)
  · refine wa_aload_n dX10_stoneAt_8 rfl 0 rfl ?_
    refine wa_iload_n dX10_stoneAt_9 rfl 1 rfl ?_
    refine wa_cVi (x_longOf C w h hX hW st (by omega)) vX10_longOf iX10_stoneAt_10 (rfl) rfl rfl rfl (Nat.le_of_ble_eq_true rfl) ⟨by decide, by decide⟩ ?_
    refine wa_iconst (1) dX10_stoneAt_13 (by decide) ?_
    refine wa_isubN (a := sLen w h st) (b := 1) dX10_stoneAt_14 (by omega) ?_
    refine wa_iload_n dX10_stoneAt_15 rfl 3 rfl ?_
    refine wa_isubN (a := (sLen w h st) - (1)) (b := i) dX10_stoneAt_16 (by omega) ?_
    refine wa_eqi (y := (nI ((if e = 0 then i else sLen w h st - 1 - i)))) (by first | (rw [if_neg c_1]; done) | (rw [if_pos c_1]; done)) ?_
    refine wa_istore [(4, .int (nI ((if e = 0 then i else sLen w h st - 1 - i)))), (0, wm_r G (96)), (1, .int (nI (st))), (2, .int (nI (e))), (3, .int (nI (i)))] dX10_stoneAt_17 (by decide) rfl ?_
    refine wa_iload_n dX10_stoneAt_19 rfl 2 rfl ?_
    refine wa_aload_n dX10_stoneAt_20 rfl 1 rfl ?_
    refine wa_geti gX10_stoneAt_21 (rfl) rfl ?_
    refine wa_eqi (y := (nI (h))) (x11) ?_
    refine wa_icmp_geN (a := st) (b := h) 39 dX10_stoneAt_24 (by decide) (by omega) (by omega) (fun c_24 => ?_) (fun c_24 => ?_)
    · have hl : sLen w h st = h := by unfold sLen; rw [if_neg (by omega)]
      refine wa_aload_n dX10_stoneAt_39 rfl 1 rfl ?_
      refine wa_geti gX10_stoneAt_40 (rfl) rfl ?_
      refine wa_eqi (y := (nI (w))) (x10) ?_
      refine wa_iload dX10_stoneAt_43 0 rfl ?_
      refine wa_imulN (a := w) (b := (if e = 0 then i else sLen w h st - 1 - i)) dX10_stoneAt_45 ?_
      refine wa_iload_n dX10_stoneAt_46 rfl 2 rfl ?_
      refine wa_iaddN (a := w * ((if e = 0 then i else sLen w h st - 1 - i))) (b := st) dX10_stoneAt_47 ?_
      refine wa_aload_n dX10_stoneAt_48 rfl 1 rfl ?_
      refine wa_geti gX10_stoneAt_49 (rfl) rfl ?_
      refine wa_eqi (y := (nI (h))) (x11) ?_
      refine wa_isubN (a := (w * ((if e = 0 then i else sLen w h st - 1 - i))) + st) (b := h) dX10_stoneAt_52 (by omega) ?_
      exact wa_iret dX10_stoneAt_53 rfl ⟨congrArg (fun z => some (Value.int z)) (by unfold sAt; first | (rw [if_pos c_24, hl, Nat.mul_comm w st]; done) | (rw [if_neg (show ¬ st < h by omega), hl, Nat.mul_comm w]; done)), rfl⟩
    · have hl : sLen w h st = w := by unfold sLen; rw [if_pos c_24]
      refine wa_aload_n dX10_stoneAt_27 rfl 1 rfl ?_
      refine wa_geti gX10_stoneAt_28 (rfl) rfl ?_
      refine wa_eqi (y := (nI (w))) (x10) ?_
      refine wa_iload_n dX10_stoneAt_31 rfl 2 rfl ?_
      refine wa_imulN (a := w) (b := st) dX10_stoneAt_32 ?_
      refine wa_iload dX10_stoneAt_33 0 rfl ?_
      refine wa_iaddN (a := w * st) (b := (if e = 0 then i else sLen w h st - 1 - i)) dX10_stoneAt_35 ?_
      refine wa_goto 53 dX10_stoneAt_36 (by decide) ?_
      exact wa_iret dX10_stoneAt_53 rfl ⟨congrArg (fun z => some (Value.int z)) (by unfold sAt; first | (rw [if_pos c_24, hl, Nat.mul_comm w st]; done) | (rw [if_neg (show ¬ st < h by omega), hl, Nat.mul_comm w]; done)), rfl⟩
  · refine wa_iload_n dX10_stoneAt_4 rfl 3 rfl ?_
    refine wa_goto 17 dX10_stoneAt_5 (by decide) ?_
    refine wa_eqi (y := (nI ((if e = 0 then i else sLen w h st - 1 - i)))) (by first | (rw [if_neg c_1]; done) | (rw [if_pos c_1]; done)) ?_
    refine wa_istore [(4, .int (nI ((if e = 0 then i else sLen w h st - 1 - i)))), (0, wm_r G (96)), (1, .int (nI (st))), (2, .int (nI (e))), (3, .int (nI (i)))] dX10_stoneAt_17 (by decide) rfl ?_
    refine wa_iload_n dX10_stoneAt_19 rfl 2 rfl ?_
    refine wa_aload_n dX10_stoneAt_20 rfl 1 rfl ?_
    refine wa_geti gX10_stoneAt_21 (rfl) rfl ?_
    refine wa_eqi (y := (nI (h))) (x11) ?_
    refine wa_icmp_geN (a := st) (b := h) 39 dX10_stoneAt_24 (by decide) (by omega) (by omega) (fun c_24 => ?_) (fun c_24 => ?_)
    · have hl : sLen w h st = h := by unfold sLen; rw [if_neg (by omega)]
      refine wa_aload_n dX10_stoneAt_39 rfl 1 rfl ?_
      refine wa_geti gX10_stoneAt_40 (rfl) rfl ?_
      refine wa_eqi (y := (nI (w))) (x10) ?_
      refine wa_iload dX10_stoneAt_43 0 rfl ?_
      refine wa_imulN (a := w) (b := (if e = 0 then i else sLen w h st - 1 - i)) dX10_stoneAt_45 ?_
      refine wa_iload_n dX10_stoneAt_46 rfl 2 rfl ?_
      refine wa_iaddN (a := w * ((if e = 0 then i else sLen w h st - 1 - i))) (b := st) dX10_stoneAt_47 ?_
      refine wa_aload_n dX10_stoneAt_48 rfl 1 rfl ?_
      refine wa_geti gX10_stoneAt_49 (rfl) rfl ?_
      refine wa_eqi (y := (nI (h))) (x11) ?_
      refine wa_isubN (a := (w * ((if e = 0 then i else sLen w h st - 1 - i))) + st) (b := h) dX10_stoneAt_52 (by omega) ?_
      exact wa_iret dX10_stoneAt_53 rfl ⟨congrArg (fun z => some (Value.int z)) (by unfold sAt; first | (rw [if_pos c_24, hl, Nat.mul_comm w st]; done) | (rw [if_neg (show ¬ st < h by omega), hl, Nat.mul_comm w]; done)), rfl⟩
    · have hl : sLen w h st = w := by unfold sLen; rw [if_pos c_24]
      refine wa_aload_n dX10_stoneAt_27 rfl 1 rfl ?_
      refine wa_geti gX10_stoneAt_28 (rfl) rfl ?_
      refine wa_eqi (y := (nI (w))) (x10) ?_
      refine wa_iload_n dX10_stoneAt_31 rfl 2 rfl ?_
      refine wa_imulN (a := w) (b := st) dX10_stoneAt_32 ?_
      refine wa_iload dX10_stoneAt_33 0 rfl ?_
      refine wa_iaddN (a := w * st) (b := (if e = 0 then i else sLen w h st - 1 - i)) dX10_stoneAt_35 ?_
      refine wa_goto 53 dX10_stoneAt_36 (by decide) ?_
      exact wa_iret dX10_stoneAt_53 rfl ⟨congrArg (fun z => some (Value.int z)) (by unfold sAt; first | (rw [if_pos c_24, hl, Nat.mul_comm w st]; done) | (rw [if_neg (show ¬ st < h by omega), hl, Nat.mul_comm w]; done)), rfl⟩

theorem x_sideAt {G : wm_G} {M : wm_M} (C : wm_M) (w h : Nat) (hX : xStn C M w h) (hW : TW C w h) (st e i : Nat) (hst : st < w + h) (he : e < 2) (hi : i < sLen w h st) (s : Nat) (hLd : Laid M (w * h) s) : MD G t_X10_sideAt [wm_r G (96), .int (nI (st)), .int (nI (e)), .int (nI (i))] (M) (some (.int (nI (sSide h s (sAt w h st e i) st e)))) (M) := by
  obtain ⟨x10, x11, x12, x103, x104, x105, x106⟩ := id hX
  have hn6 := TW_n hW
  have hw3 := hW.2.2.1
  have hh2 := hW.2.2.2
  have hlen : sLen w h st ≤ 3 := by unfold sLen; split <;> omega
  have hat := sAt_lt (e := e) hst hi
  refine wm_met (by decide) (Nat.le_of_ble_eq_true rfl) ?_
  show WA G t_X10_sideAt (fun v_ N_ => v_ = some (.int (nI (sSide h s (sAt w h st e i) st e))) ∧ N_ = M) 0 [(0, wm_r G (96)), (1, .int (nI (st))), (2, .int (nI (e))), (3, .int (nI (i)))] [] (M)
  refine wa_iload_n dX10_sideAt_0 rfl 1 rfl ?_
  refine wa_aload_n dX10_sideAt_1 rfl 0 rfl ?_
  refine wa_geti gX10_sideAt_2 (rfl) rfl ?_
  refine wa_eqi (y := (nI (h))) (x11) ?_
  refine wa_icmp_geN (a := st) (b := h) 14 dX10_sideAt_5 (by decide) (by omega) (by omega) (fun c_5 => ?_) (fun c_5 => ?_)
  · refine wa_iconst (1) dX10_sideAt_14 (by decide) ?_
    refine wa_iconst (2) dX10_sideAt_15 (by decide) ?_
    refine wa_iload_n dX10_sideAt_16 rfl 2 rfl ?_
    refine wa_imulN (a := 2) (b := e) dX10_sideAt_17 ?_
    refine wa_iaddN (a := 1) (b := 2 * e) dX10_sideAt_18 ?_
    refine wa_eqi (y := (nI (sFst h st e))) (by unfold sFst; first | (rw [if_pos (show st < h by omega), Nat.zero_add]; done) | (rw [if_neg (show ¬ st < h by omega)]; done)) ?_
    refine wa_istore [(4, .int (nI (sFst h st e))), (0, wm_r G (96)), (1, .int (nI (st))), (2, .int (nI (e))), (3, .int (nI (i)))] dX10_sideAt_19 (by decide) rfl ?_
    refine wa_aload_n dX10_sideAt_21 rfl 1 rfl ?_
    refine wa_getr gX10_sideAt_22 (rfl) rfl ?_
    refine wa_aload_n dX10_sideAt_25 rfl 1 rfl ?_
    refine wa_iload_n dX10_sideAt_26 rfl 2 rfl ?_
    refine wa_iload_n dX10_sideAt_27 rfl 3 rfl ?_
    refine wa_iload_n dX10_sideAt_28 rfl 4 rfl ?_
    refine wa_cVi (x_stoneAt C w h hX hW st e i hst he hi) vX10_stoneAt iX10_sideAt_29 (rfl) rfl rfl rfl (Nat.le_of_ble_eq_true rfl) ⟨by decide, by decide⟩ ?_
    refine wa_ialdN (e := sAt w h st e i) dX10_sideAt_32 (rfl) (by omega) (by decide) ?_
    refine wa_eqi (y := (nI (sQ s (sAt w h st e i)))) (hLd _ hat) ?_
    refine wa_iload dX10_sideAt_33 0 rfl ?_
    refine wa_iaddN (a := sQ s (sAt w h st e i)) (b := sFst h st e) dX10_sideAt_35 ?_
    refine wa_iconst (4) dX10_sideAt_36 (by decide) ?_
    refine wa_iremN (a := sQ s (sAt w h st e i) + (sFst h st e)) (b := 4) dX10_sideAt_37 (by have := sQ_lt s (sAt w h st e i); have : sFst h st e ≤ 3 := (by unfold sFst; split <;> omega); omega) (by omega) (by omega) ?_
    exact wa_iret dX10_sideAt_38 rfl ⟨congrArg (fun z => some (Value.int z)) (rfl), rfl⟩
  · refine wa_iconst (2) dX10_sideAt_8 (by decide) ?_
    refine wa_iload_n dX10_sideAt_9 rfl 2 rfl ?_
    refine wa_imulN (a := 2) (b := e) dX10_sideAt_10 ?_
    refine wa_goto 19 dX10_sideAt_11 (by decide) ?_
    refine wa_eqi (y := (nI (sFst h st e))) (by unfold sFst; first | (rw [if_pos (show st < h by omega), Nat.zero_add]; done) | (rw [if_neg (show ¬ st < h by omega)]; done)) ?_
    refine wa_istore [(4, .int (nI (sFst h st e))), (0, wm_r G (96)), (1, .int (nI (st))), (2, .int (nI (e))), (3, .int (nI (i)))] dX10_sideAt_19 (by decide) rfl ?_
    refine wa_aload_n dX10_sideAt_21 rfl 1 rfl ?_
    refine wa_getr gX10_sideAt_22 (rfl) rfl ?_
    refine wa_aload_n dX10_sideAt_25 rfl 1 rfl ?_
    refine wa_iload_n dX10_sideAt_26 rfl 2 rfl ?_
    refine wa_iload_n dX10_sideAt_27 rfl 3 rfl ?_
    refine wa_iload_n dX10_sideAt_28 rfl 4 rfl ?_
    refine wa_cVi (x_stoneAt C w h hX hW st e i hst he hi) vX10_stoneAt iX10_sideAt_29 (rfl) rfl rfl rfl (Nat.le_of_ble_eq_true rfl) ⟨by decide, by decide⟩ ?_
    refine wa_ialdN (e := sAt w h st e i) dX10_sideAt_32 (rfl) (by omega) (by decide) ?_
    refine wa_eqi (y := (nI (sQ s (sAt w h st e i)))) (hLd _ hat) ?_
    refine wa_iload dX10_sideAt_33 0 rfl ?_
    refine wa_iaddN (a := sQ s (sAt w h st e i)) (b := sFst h st e) dX10_sideAt_35 ?_
    refine wa_iconst (4) dX10_sideAt_36 (by decide) ?_
    refine wa_iremN (a := sQ s (sAt w h st e i) + (sFst h st e)) (b := 4) dX10_sideAt_37 (by have := sQ_lt s (sAt w h st e i); have : sFst h st e ≤ 3 := (by unfold sFst; split <;> omega); omega) (by omega) (by omega) ?_
    exact wa_iret dX10_sideAt_38 rfl ⟨congrArg (fun z => some (Value.int z)) (rfl), rfl⟩

theorem x_wordAt {G : wm_G} {M : wm_M} (C : wm_M) (w h : Nat) (hX : xStn C M w h) (hW : TW C w h) (st e i : Nat) (hst : st < w + h) (he : e < 2) (hi : i < sLen w h st) (s : Nat) (hLd : Laid M (w * h) s) : MD G t_X10_wordAt [wm_r G (96), .int (nI (st)), .int (nI (e)), .int (nI (i))] (M) (some (.int (wordR C w h s st e i))) (M) := by
  obtain ⟨x10, x11, x12, x103, x104, x105, x106⟩ := id hX
  have hn6 := TW_n hW
  have hw3 := hW.2.2.1
  have hh2 := hW.2.2.2
  have hlen : sLen w h st ≤ 3 := by unfold sLen; split <;> omega
  have hat := sAt_lt (e := e) hst hi
  refine wm_met (by decide) (Nat.le_of_ble_eq_true rfl) ?_
  show WA G t_X10_wordAt (fun v_ N_ => v_ = some (.int (wordR C w h s st e i)) ∧ N_ = M) 0 [(0, wm_r G (96)), (1, .int (nI (st))), (2, .int (nI (e))), (3, .int (nI (i)))] [] (M)
  refine wa_aload_n dX10_wordAt_0 rfl 0 rfl ?_
  refine wa_iload_n dX10_wordAt_1 rfl 1 rfl ?_
  refine wa_iload_n dX10_wordAt_2 rfl 2 rfl ?_
  refine wa_iload_n dX10_wordAt_3 rfl 3 rfl ?_
  refine wa_cVi (x_stoneAt C w h hX hW st e i hst he hi) vX10_stoneAt iX10_wordAt_4 (rfl) rfl rfl rfl (Nat.le_of_ble_eq_true rfl) ⟨by decide, by decide⟩ ?_
  refine wa_istore [(4, .int (nI (sAt w h st e i))), (0, wm_r G (96)), (1, .int (nI (st))), (2, .int (nI (e))), (3, .int (nI (i)))] dX10_wordAt_7 (by decide) rfl ?_
  refine wa_aload_n dX10_wordAt_9 rfl 1 rfl ?_
  refine wa_getr gX10_wordAt_10 (rfl) rfl ?_
  refine wa_iload dX10_wordAt_13 0 rfl ?_
  refine wa_ialdN (e := sAt w h st e i) dX10_wordAt_15 (rfl) (by omega) (by decide) ?_
  refine wa_eqi (y := (C.1 18 (sAt w h st e i))) (x103 _ hat) ?_
  refine wa_iconst (5) dX10_wordAt_16 (by decide) ?_
  refine wa_icmp_ne 24 dX10_wordAt_17 (by decide) (fun c_17 => ?_) (fun c_17 => ?_)
  · refine wa_aload_n dX10_wordAt_24 rfl 1 rfl ?_
    refine wa_getr gX10_wordAt_25 (rfl) rfl ?_
    refine wa_iconst (4) dX10_wordAt_28 (by decide) ?_
    refine wa_iload dX10_wordAt_29 0 rfl ?_
    refine wa_imulN (a := 4) (b := sAt w h st e i) dX10_wordAt_31 ?_
    refine wa_aload_n dX10_wordAt_32 rfl 1 rfl ?_
    refine wa_iload_n dX10_wordAt_33 rfl 2 rfl ?_
    refine wa_iload_n dX10_wordAt_34 rfl 3 rfl ?_
    refine wa_iload_n dX10_wordAt_35 rfl 4 rfl ?_
    refine wa_cVi (x_sideAt C w h hX hW st e i hst he hi s hLd) vX10_sideAt iX10_wordAt_36 (rfl) rfl rfl rfl (Nat.le_of_ble_eq_true rfl) ⟨by decide, by decide⟩ ?_
    have hsd : sSide h s (sAt w h st e i) st e < 4 := Nat.mod_lt _ (by decide)
    refine wa_iaddN (a := 4 * (sAt w h st e i)) (b := sSide h s (sAt w h st e i) st e) dX10_wordAt_39 ?_
    refine wa_ialdN (e := 4 * (sAt w h st e i) + (sSide h s (sAt w h st e i) st e)) dX10_wordAt_40 (rfl) (by omega) (by decide) ?_
    refine wa_eqi (y := (C.1 19 (4 * (sAt w h st e i) + sSide h s (sAt w h st e i) st e))) (x104 _ (by omega)) ?_
    exact wa_iret dX10_wordAt_41 rfl ⟨congrArg (fun z => some (Value.int z)) (by unfold wordR sShow; first | (rw [if_pos c_17]; done) | (rw [if_neg c_17]; done)), rfl⟩
  · refine wa_iconst (-1) dX10_wordAt_20 (by decide) ?_
    refine wa_goto 41 dX10_wordAt_21 (by decide) ?_
    exact wa_iret dX10_wordAt_41 rfl ⟨congrArg (fun z => some (Value.int z)) (by unfold wordR sShow; first | (rw [if_pos c_17]; done) | (rw [if_neg c_17]; done)), rfl⟩

theorem x_isWornAt {G : wm_G} {M : wm_M} (C : wm_M) (w h : Nat) (hX : xStn C M w h) (hW : TW C w h) (st e i : Nat) (hst : st < w + h) (he : e < 2) (hi : i < sLen w h st) (s : Nat) (hLd : Laid M (w * h) s) : MD G t_X10_isWornAt [wm_r G (96), .int (nI (st)), .int (nI (e)), .int (nI (i))] (M) (some (.int (wB (wornR C w h s st e i)))) (M) := by
  obtain ⟨x10, x11, x12, x103, x104, x105, x106⟩ := id hX
  have hn6 := TW_n hW
  have hw3 := hW.2.2.1
  have hh2 := hW.2.2.2
  have hlen : sLen w h st ≤ 3 := by unfold sLen; split <;> omega
  have hat := sAt_lt (e := e) hst hi
  refine wm_met (by decide) (Nat.le_of_ble_eq_true rfl) ?_
  show WA G t_X10_isWornAt (fun v_ N_ => v_ = some (.int (wB (wornR C w h s st e i))) ∧ N_ = M) 0 [(0, wm_r G (96)), (1, .int (nI (st))), (2, .int (nI (e))), (3, .int (nI (i)))] [] (M)
  refine wa_aload_n dX10_isWornAt_0 rfl 0 rfl ?_
  refine wa_iload_n dX10_isWornAt_1 rfl 1 rfl ?_
  refine wa_iload_n dX10_isWornAt_2 rfl 2 rfl ?_
  refine wa_iload_n dX10_isWornAt_3 rfl 3 rfl ?_
  refine wa_cVi (x_stoneAt C w h hX hW st e i hst he hi) vX10_stoneAt iX10_isWornAt_4 (rfl) rfl rfl rfl (Nat.le_of_ble_eq_true rfl) ⟨by decide, by decide⟩ ?_
  refine wa_istore [(4, .int (nI (sAt w h st e i))), (0, wm_r G (96)), (1, .int (nI (st))), (2, .int (nI (e))), (3, .int (nI (i)))] dX10_isWornAt_7 (by decide) rfl ?_
  refine wa_aload_n dX10_isWornAt_9 rfl 1 rfl ?_
  refine wa_getr gX10_isWornAt_10 (rfl) rfl ?_
  refine wa_iload dX10_isWornAt_13 0 rfl ?_
  refine wa_ialdN (e := sAt w h st e i) dX10_isWornAt_15 (rfl) (by omega) (by decide) ?_
  refine wa_eqi (y := (C.1 18 (sAt w h st e i))) (x103 _ hat) ?_
  refine wa_iconst (1) dX10_isWornAt_16 (by decide) ?_
  refine wa_icmp_ne 41 dX10_isWornAt_17 (by decide) (fun c_17 => ?_) (fun c_17 => ?_)
  · refine wa_iconst (0) dX10_isWornAt_41 (by decide) ?_
    exact wa_zret dX10_isWornAt_42 rfl (by decide) ⟨congrArg (fun z => some (Value.int z)) (by unfold wornR; first | (rw [decide_eq_true c_17, decide_eq_true c_34]; rfl) | (rw [decide_eq_true c_17, decide_eq_false c_34]; rfl) | (rw [decide_eq_false c_17]; rfl)), rfl⟩
  · refine wa_aload_n dX10_isWornAt_20 rfl 1 rfl ?_
    refine wa_getr gX10_isWornAt_21 (rfl) rfl ?_
    refine wa_iload dX10_isWornAt_24 0 rfl ?_
    refine wa_ialdN (e := sAt w h st e i) dX10_isWornAt_26 (rfl) (by omega) (by decide) ?_
    refine wa_eqi (y := (C.1 20 (sAt w h st e i))) (x105 _ hat) ?_
    refine wa_aload_n dX10_isWornAt_27 rfl 1 rfl ?_
    refine wa_iload_n dX10_isWornAt_28 rfl 2 rfl ?_
    refine wa_iload_n dX10_isWornAt_29 rfl 3 rfl ?_
    refine wa_iload_n dX10_isWornAt_30 rfl 4 rfl ?_
    refine wa_cVi (x_sideAt C w h hX hW st e i hst he hi s hLd) vX10_sideAt iX10_isWornAt_31 (rfl) rfl rfl rfl (Nat.le_of_ble_eq_true rfl) ⟨by decide, by decide⟩ ?_
    refine wa_icmp_ne 41 dX10_isWornAt_34 (by decide) (fun c_34 => ?_) (fun c_34 => ?_)
    · refine wa_iconst (0) dX10_isWornAt_41 (by decide) ?_
      exact wa_zret dX10_isWornAt_42 rfl (by decide) ⟨congrArg (fun z => some (Value.int z)) (by unfold wornR; first | (rw [decide_eq_true c_17, decide_eq_true c_34]; rfl) | (rw [decide_eq_true c_17, decide_eq_false c_34]; rfl) | (rw [decide_eq_false c_17]; rfl)), rfl⟩
    · refine wa_iconst (1) dX10_isWornAt_37 (by decide) ?_
      refine wa_goto 42 dX10_isWornAt_38 (by decide) ?_
      exact wa_zret dX10_isWornAt_42 rfl (by decide) ⟨congrArg (fun z => some (Value.int z)) (by unfold wornR; first | (rw [decide_eq_true c_17, decide_eq_true c_34]; rfl) | (rw [decide_eq_true c_17, decide_eq_false c_34]; rfl) | (rw [decide_eq_false c_17]; rfl)), rfl⟩
