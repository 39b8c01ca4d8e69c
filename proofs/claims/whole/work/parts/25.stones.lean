theorem m_number {G : wm_G} {M : wm_M} (o w h : Nat) (hO : SO o) (hw : M.1 o 0 = nI w) (hh : M.1 o 1 = nI h) : MD G t_X4_number [wm_r G (o)] (M) (some (.int (nI (w * h)))) (M) := by
  refine wm_met (by decide) (Nat.le_of_ble_eq_true rfl) ?_
  show WA G t_X4_number (fun v_ N_ => v_ = some (.int (nI (w * h))) ∧ N_ = M) 0 [(0, wm_r G (o))] [] (M)
  refine wa_aload_n dX4_number_0 rfl 0 rfl ?_
  refine wa_geti gX4_number_1 (hO.1) rfl ?_
  refine wa_eqi (y := (nI (w))) (hw) ?_
  refine wa_aload_n dX4_number_4 rfl 0 rfl ?_
  refine wa_geti gX4_number_5 (hO.1) rfl ?_
  refine wa_eqi (y := (nI (h))) (hh) ?_
  refine wa_imulN (a := w) (b := h) dX4_number_8 ?_
  exact wa_iret dX4_number_9 rfl ⟨congrArg (fun z => some (Value.int z)) (rfl), rfl⟩

theorem m_streets {G : wm_G} {M : wm_M} (w h : Nat) (hW : TW M w h) : MD G t_X4_streets [wm_r G (17)] (M) (some (.int (nI (w + h)))) (M) := by
  have hn6 := TW_n hW
  obtain ⟨hw, hh, hw3, hh2⟩ := hW
  refine wm_met (by decide) (Nat.le_of_ble_eq_true rfl) ?_
  show WA G t_X4_streets (fun v_ N_ => v_ = some (.int (nI (w + h))) ∧ N_ = M) 0 [(0, wm_r G (17))] [] (M)
  refine wa_aload_n dX4_streets_0 rfl 0 rfl ?_
  refine wa_geti gX4_streets_1 (rfl) rfl ?_
  refine wa_eqi (y := (nI (w))) (hw) ?_
  refine wa_aload_n dX4_streets_4 rfl 0 rfl ?_
  refine wa_geti gX4_streets_5 (rfl) rfl ?_
  refine wa_eqi (y := (nI (h))) (hh) ?_
  refine wa_iaddN (a := w) (b := h) dX4_streets_8 ?_
  exact wa_iret dX4_streets_9 rfl ⟨congrArg (fun z => some (Value.int z)) (rfl), rfl⟩

theorem m_sknows {G : wm_G} {M : wm_M} (w h : Nat) (hW : TW M w h) (k : Int32) : MD G t_X4_knows [wm_r G (17), .int (k)] (M) (some (.int (wB (wIn k (w * h))))) (M) := by
  have hn6 := TW_n hW
  obtain ⟨hw, hh, hw3, hh2⟩ := hW
  refine wm_met (by decide) (Nat.le_of_ble_eq_true rfl) ?_
  show WA G t_X4_knows (fun v_ N_ => v_ = some (.int (wB (wIn k (w * h)))) ∧ N_ = M) 0 [(0, wm_r G (17)), (1, .int (k))] [] (M)
  refine wa_iload_n dX4_knows_0 rfl 1 rfl ?_
  refine wa_if_lt 16 dX4_knows_1 (by decide) (fun c_1 => ?_) (fun c_1 => ?_)
  · refine wa_iconst (0) dX4_knows_16 (by decide) ?_
    exact wa_zret dX4_knows_17 rfl (by decide) ⟨congrArg (fun z => some (Value.int z)) (by first | (rw [wIn_neg c_1]; rfl) | (rw [wIn_ge (by omega) c_9]; rfl) | (rw [wIn_of (by omega) c_1 c_9]; rfl)), rfl⟩
  · refine wa_iload_n dX4_knows_4 rfl 1 rfl ?_
    refine wa_aload_n dX4_knows_5 rfl 0 rfl ?_
    refine wa_cVi (m_number 17 w h SO_17 hw hh) vX4_number iX4_knows_6 (rfl) rfl rfl rfl (Nat.le_of_ble_eq_true rfl) ⟨by decide, by decide⟩ ?_
    refine wa_icmp_ge 16 dX4_knows_9 (by decide) (fun c_9 => ?_) (fun c_9 => ?_)
    · refine wa_iconst (0) dX4_knows_16 (by decide) ?_
      exact wa_zret dX4_knows_17 rfl (by decide) ⟨congrArg (fun z => some (Value.int z)) (by first | (rw [wIn_neg c_1]; rfl) | (rw [wIn_ge (by omega) c_9]; rfl) | (rw [wIn_of (by omega) c_1 c_9]; rfl)), rfl⟩
    · refine wa_iconst (1) dX4_knows_12 (by decide) ?_
      refine wa_goto 17 dX4_knows_13 (by decide) ?_
      exact wa_zret dX4_knows_17 rfl (by decide) ⟨congrArg (fun z => some (Value.int z)) (by first | (rw [wIn_neg c_1]; rfl) | (rw [wIn_ge (by omega) c_9]; rfl) | (rw [wIn_of (by omega) c_1 c_9]; rfl)), rfl⟩

theorem m_sknowsN {G : wm_G} {M : wm_M} (w h : Nat) (hW : TW M w h) (k : Nat) (hk : k < 100) : MD G t_X4_knows [wm_r G (17), .int (nI (k))] (M) (some (.int (wB (decide (k < w * h))))) (M) := by
  have hn6 := TW_n hW
  obtain ⟨hw, hh, hw3, hh2⟩ := hW
  refine wm_met (by decide) (Nat.le_of_ble_eq_true rfl) ?_
  show WA G t_X4_knows (fun v_ N_ => v_ = some (.int (wB (decide (k < w * h)))) ∧ N_ = M) 0 [(0, wm_r G (17)), (1, .int (nI (k)))] [] (M)
  refine wa_iload_n dX4_knows_0 rfl 1 rfl ?_
  refine wa_if_ltN (a := k) 16 dX4_knows_1 (by decide) (by omega) (fun c_1 => absurd c_1 (Nat.not_lt_zero _)) (fun c_1 => ?_)
  refine wa_iload_n dX4_knows_4 rfl 1 rfl ?_
  refine wa_aload_n dX4_knows_5 rfl 0 rfl ?_
  refine wa_cVi (m_number 17 w h SO_17 hw hh) vX4_number iX4_knows_6 (rfl) rfl rfl rfl (Nat.le_of_ble_eq_true rfl) ⟨by decide, by decide⟩ ?_
  refine wa_icmp_geN (a := k) (b := w * h) 16 dX4_knows_9 (by decide) (by omega) (by omega) (fun c_9 => ?_) (fun c_9 => ?_)
  · refine wa_iconst (0) dX4_knows_16 (by decide) ?_
    exact wa_zret dX4_knows_17 rfl (by decide) ⟨congrArg (fun z => some (Value.int z)) (by first | (rw [decide_eq_false (by omega)]; rfl) | (rw [decide_eq_true (by omega)]; rfl)), rfl⟩
  · refine wa_iconst (1) dX4_knows_12 (by decide) ?_
    refine wa_goto 17 dX4_knows_13 (by decide) ?_
    exact wa_zret dX4_knows_17 rfl (by decide) ⟨congrArg (fun z => some (Value.int z)) (by first | (rw [decide_eq_false (by omega)]; rfl) | (rw [decide_eq_true (by omega)]; rfl)), rfl⟩

theorem m_isOf {G : wm_G} {M : wm_M} (o : Nat) (hO : SO o) (k : Nat) (kind : Int32) (hk : k < 6) : MD G t_X4_isOf [wm_r G (o), .int (nI (k)), .int (kind)] (M) (some (.int (wB (isOfB (M.1 (o + 1) k) kind)))) (M) := by
  refine wm_met (by decide) (Nat.le_of_ble_eq_true rfl) ?_
  show WA G t_X4_isOf (fun v_ N_ => v_ = some (.int (wB (isOfB (M.1 (o + 1) k) kind))) ∧ N_ = M) 0 [(0, wm_r G (o)), (1, .int (nI (k))), (2, .int (kind))] [] (M)
  refine wa_aload_n dX4_isOf_0 rfl 0 rfl ?_
  refine wa_getr gX4_isOf_1 (hO.1) rfl ?_
  refine wa_iload_n dX4_isOf_4 rfl 1 rfl ?_
  refine wa_ialdN (e := k) dX4_isOf_5 (hO.2.1) (by omega) (by omega) ?_
  refine wa_topi (fun own e_own => ?_)
  refine wa_istore_n [(3, .int (own)), (0, wm_r G (o)), (1, .int (nI (k))), (2, .int (kind))] dX4_isOf_6 rfl (by decide) rfl ?_
  refine wa_iload_n dX4_isOf_7 rfl 0 rfl ?_
  refine wa_iload_n dX4_isOf_8 rfl 3 rfl ?_
  refine wa_icmp_eq 32 dX4_isOf_9 (by decide) (fun c_9 => ?_) (fun c_9 => ?_)
  · refine wa_iconst (1) dX4_isOf_32 (by decide) ?_
    refine wa_goto 37 dX4_isOf_33 (by decide) ?_
    exact wa_zret dX4_isOf_37 rfl (by decide) ⟨congrArg (fun z => some (Value.int z)) (by subst e_own; simp_all [isOfB, wB]), rfl⟩
  · refine wa_iload_n dX4_isOf_12 rfl 3 rfl ?_
    refine wa_iconst (1) dX4_isOf_13 (by decide) ?_
    refine wa_icmp_ne 22 dX4_isOf_14 (by decide) (fun c_14 => ?_) (fun c_14 => ?_)
    · refine wa_iload_n dX4_isOf_22 rfl 3 rfl ?_
      refine wa_iconst (2) dX4_isOf_23 (by decide) ?_
      refine wa_icmp_ne 36 dX4_isOf_24 (by decide) (fun c_24 => ?_) (fun c_24 => ?_)
      · refine wa_iconst (0) dX4_isOf_36 (by decide) ?_
        exact wa_zret dX4_isOf_37 rfl (by decide) ⟨congrArg (fun z => some (Value.int z)) (by subst e_own; simp_all [isOfB, wB]), rfl⟩
      · refine wa_iload_n dX4_isOf_27 rfl 0 rfl ?_
        refine wa_iconst (5) dX4_isOf_28 (by decide) ?_
        refine wa_icmp_ne 36 dX4_isOf_29 (by decide) (fun c_29 => ?_) (fun c_29 => ?_)
        · refine wa_iconst (0) dX4_isOf_36 (by decide) ?_
          exact wa_zret dX4_isOf_37 rfl (by decide) ⟨congrArg (fun z => some (Value.int z)) (by subst e_own; simp_all [isOfB, wB]), rfl⟩
        · refine wa_iconst (1) dX4_isOf_32 (by decide) ?_
          refine wa_goto 37 dX4_isOf_33 (by decide) ?_
          exact wa_zret dX4_isOf_37 rfl (by decide) ⟨congrArg (fun z => some (Value.int z)) (by subst e_own; simp_all [isOfB, wB]), rfl⟩
    · refine wa_iload_n dX4_isOf_17 rfl 0 rfl ?_
      refine wa_iconst (4) dX4_isOf_18 (by decide) ?_
      refine wa_icmp_eq 32 dX4_isOf_19 (by decide) (fun c_19 => ?_) (fun c_19 => ?_)
      · refine wa_iconst (1) dX4_isOf_32 (by decide) ?_
        refine wa_goto 37 dX4_isOf_33 (by decide) ?_
        exact wa_zret dX4_isOf_37 rfl (by decide) ⟨congrArg (fun z => some (Value.int z)) (by subst e_own; simp_all [isOfB, wB]), rfl⟩
      · refine wa_iload_n dX4_isOf_22 rfl 3 rfl ?_
        refine wa_iconst (2) dX4_isOf_23 (by decide) ?_
        refine wa_icmp_ne 36 dX4_isOf_24 (by decide) (fun c_24 => ?_) (fun c_24 => ?_)
        · refine wa_iconst (0) dX4_isOf_36 (by decide) ?_
          exact wa_zret dX4_isOf_37 rfl (by decide) ⟨congrArg (fun z => some (Value.int z)) (by subst e_own; simp_all [isOfB, wB]), rfl⟩
        · refine wa_iload_n dX4_isOf_27 rfl 0 rfl ?_
          refine wa_iconst (5) dX4_isOf_28 (by decide) ?_
          refine wa_icmp_ne 36 dX4_isOf_29 (by decide) (fun c_29 => ?_) (fun c_29 => ?_)
          · refine wa_iconst (0) dX4_isOf_36 (by decide) ?_
            exact wa_zret dX4_isOf_37 rfl (by decide) ⟨congrArg (fun z => some (Value.int z)) (by subst e_own; simp_all [isOfB, wB]), rfl⟩
          · refine wa_iconst (1) dX4_isOf_32 (by decide) ?_
            refine wa_goto 37 dX4_isOf_33 (by decide) ?_
            exact wa_zret dX4_isOf_37 rfl (by decide) ⟨congrArg (fun z => some (Value.int z)) (by subst e_own; simp_all [isOfB, wB]), rfl⟩

theorem m_step {G : wm_G} {M : wm_M} (k : Nat) (hk : k < 6) : MD G t_X4_step [wm_r G (17), .int (nI (k))] (M) (some (.int (nI (sStep (M.1 18 k))))) (M) := by
  refine wm_met (by decide) (Nat.le_of_ble_eq_true rfl) ?_
  show WA G t_X4_step (fun v_ N_ => v_ = some (.int (nI (sStep (M.1 18 k)))) ∧ N_ = M) 0 [(0, wm_r G (17)), (1, .int (nI (k)))] [] (M)
  refine wa_aload_n dX4_step_0 rfl 0 rfl ?_
  refine wa_iload_n dX4_step_1 rfl 1 rfl ?_
  refine wa_iconst (2) dX4_step_2 (by decide) ?_
  refine wa_cVi (m_isOf 17 SO_17 k 2 hk) vX4_isOf iX4_step_3 (rfl) rfl rfl rfl (Nat.le_of_ble_eq_true rfl) ⟨by decide, by decide⟩ ?_
  refine wa_if_eqB 13 dX4_step_6 (by decide) (fun (c_6 : (isOfB (M.1 18 k) 2) = false) => ?_) (fun (c_6 : (isOfB (M.1 18 k) 2) = true) => ?_)
  · refine wa_aload_n dX4_step_13 rfl 0 rfl ?_
    refine wa_getr gX4_step_14 (rfl) rfl ?_
    refine wa_iload_n dX4_step_17 rfl 1 rfl ?_
    refine wa_ialdN (e := k) dX4_step_18 (rfl) (by omega) (by decide) ?_
    refine wa_iconst (3) dX4_step_19 (by decide) ?_
    refine wa_icmp_ne 27 dX4_step_20 (by decide) (fun c_20 => ?_) (fun c_20 => ?_)
    · refine wa_iconst (1) dX4_step_27 (by decide) ?_
      exact wa_iret dX4_step_28 rfl ⟨congrArg (fun z => some (Value.int z)) (by rw [isOfB_fix] at c_6; simp [sStep, c_6]; first | rfl | (simp [c_20]; rfl)), rfl⟩
    · refine wa_iconst (2) dX4_step_23 (by decide) ?_
      refine wa_goto 28 dX4_step_24 (by decide) ?_
      exact wa_iret dX4_step_28 rfl ⟨congrArg (fun z => some (Value.int z)) (by rw [isOfB_fix] at c_6; simp [sStep, c_6]; first | rfl | (simp [c_20]; rfl)), rfl⟩
  · refine wa_iconst (0) dX4_step_9 (by decide) ?_
    refine wa_goto 28 dX4_step_10 (by decide) ?_
    exact wa_iret dX4_step_28 rfl ⟨congrArg (fun z => some (Value.int z)) (by rw [isOfB_fix] at c_6; simp [sStep, c_6]; first | rfl | (simp [c_20]; rfl)), rfl⟩

theorem m_mostTurns {G : wm_G} {M : wm_M} (k : Nat) (hk : k < 6) : MD G t_X4_mostTurns [wm_r G (17), .int (nI (k))] (M) (some (.int (nI (sMost (M.1 18 k))))) (M) := by
  refine wm_met (by decide) (Nat.le_of_ble_eq_true rfl) ?_
  show WA G t_X4_mostTurns (fun v_ N_ => v_ = some (.int (nI (sMost (M.1 18 k)))) ∧ N_ = M) 0 [(0, wm_r G (17)), (1, .int (nI (k)))] [] (M)
  refine wa_aload_n dX4_mostTurns_0 rfl 0 rfl ?_
  refine wa_iload_n dX4_mostTurns_1 rfl 1 rfl ?_
  refine wa_iconst (2) dX4_mostTurns_2 (by decide) ?_
  refine wa_cVi (m_isOf 17 SO_17 k 2 hk) vX4_isOf iX4_mostTurns_3 (rfl) rfl rfl rfl (Nat.le_of_ble_eq_true rfl) ⟨by decide, by decide⟩ ?_
  refine wa_if_eqB 13 dX4_mostTurns_6 (by decide) (fun (c_6 : (isOfB (M.1 18 k) 2) = false) => ?_) (fun (c_6 : (isOfB (M.1 18 k) 2) = true) => ?_)
  · refine wa_aload_n dX4_mostTurns_13 rfl 0 rfl ?_
    refine wa_getr gX4_mostTurns_14 (rfl) rfl ?_
    refine wa_iload_n dX4_mostTurns_17 rfl 1 rfl ?_
    refine wa_ialdN (e := k) dX4_mostTurns_18 (rfl) (by omega) (by decide) ?_
    refine wa_iconst (3) dX4_mostTurns_19 (by decide) ?_
    refine wa_icmp_ne 27 dX4_mostTurns_20 (by decide) (fun c_20 => ?_) (fun c_20 => ?_)
    · refine wa_iconst (3) dX4_mostTurns_27 (by decide) ?_
      exact wa_iret dX4_mostTurns_28 rfl ⟨congrArg (fun z => some (Value.int z)) (by rw [isOfB_fix] at c_6; simp [sMost, c_6]; first | rfl | (simp [c_20]; rfl)), rfl⟩
    · refine wa_iconst (1) dX4_mostTurns_23 (by decide) ?_
      refine wa_goto 28 dX4_mostTurns_24 (by decide) ?_
      exact wa_iret dX4_mostTurns_28 rfl ⟨congrArg (fun z => some (Value.int z)) (by rw [isOfB_fix] at c_6; simp [sMost, c_6]; first | rfl | (simp [c_20]; rfl)), rfl⟩
  · refine wa_iconst (0) dX4_mostTurns_9 (by decide) ?_
    refine wa_goto 28 dX4_mostTurns_10 (by decide) ?_
    exact wa_iret dX4_mostTurns_28 rfl ⟨congrArg (fun z => some (Value.int z)) (by rw [isOfB_fix] at c_6; simp [sMost, c_6]; first | rfl | (simp [c_20]; rfl)), rfl⟩

theorem m_numberOf {G : wm_G} {M : wm_M} (w h : Nat) (hW : TW M w h) (kind : Int32) : MD G t_X4_numberOf [wm_r G (17), .int (kind)] (M) (some (.int (nI (wCnt (fun k => isOfB (M.1 18 k) kind) (w * h))))) (M) := by
  have hn6 := TW_n hW
  obtain ⟨hw, hh, hw3, hh2⟩ := hW
  refine wm_met (by decide) (Nat.le_of_ble_eq_true rfl) ?_
  show WA G t_X4_numberOf (fun v_ N_ => v_ = some (.int (nI (wCnt (fun k => isOfB (M.1 18 k) kind) (w * h)))) ∧ N_ = M) 0 [(0, wm_r G (17)), (1, .int (kind))] [] (M)
  refine wa_iconst (0) dX4_numberOf_0 (by decide) ?_
  refine wa_istore_n [(2, .int (0)), (0, wm_r G (17)), (1, .int (kind))] dX4_numberOf_1 rfl (by decide) rfl ?_
  refine wa_iconst (0) dX4_numberOf_2 (by decide) ?_
  refine wa_istore_n [(3, .int (0)), (2, .int (0)), (0, wm_r G (17)), (1, .int (kind))] dX4_numberOf_3 rfl (by decide) rfl ?_
  have L_4 : ∀ (n_ : Nat) (k c : Nat), (w * h - k) < n_ → (k ≤ w * h) → (c = wCnt (fun k => isOfB (M.1 18 k) kind) k) → WA G t_X4_numberOf (fun v_ N_ => v_ = some (.int (nI (wCnt (fun k => isOfB (M.1 18 k) kind) (w * h)))) ∧ N_ = M) 4 [(3, .int (nI (k))), (2, .int (nI (c))), (0, wm_r G (17)), (1, .int (kind))] [] (M) := by
    intro n_
    induction n_ with
    | zero => intro k c h_; exact absurd h_ (Nat.not_lt_zero _)
    | succ n_ ih_4 =>
      intro k c h_ hk hc
      refine wa_iload_n dX4_numberOf_4 rfl 0 rfl ?_
      refine wa_aload_n dX4_numberOf_5 rfl 2 rfl ?_
      refine wa_cVi (m_number 17 w h SO_17 hw hh) vX4_number iX4_numberOf_6 (rfl) rfl rfl rfl (Nat.le_of_ble_eq_true rfl) ⟨by decide, by decide⟩ ?_
      refine wa_icmp_geN (a := k) (b := w * h) 30 dX4_numberOf_9 (by decide) (by omega) (by omega) (fun c_9 => ?_) (fun c_9 => ?_)
      · refine wa_iload_n dX4_numberOf_30 rfl 1 rfl ?_
        exact wa_iret dX4_numberOf_31 rfl ⟨congrArg (fun z => some (Value.int z)) (by rw [hc, show k = w * h by omega]), rfl⟩
      · refine wa_aload_n dX4_numberOf_12 rfl 2 rfl ?_
        refine wa_iload_n dX4_numberOf_13 rfl 0 rfl ?_
        refine wa_iload_n dX4_numberOf_14 rfl 3 rfl ?_
        refine wa_cVi (m_isOf 17 SO_17 k kind (by omega)) vX4_isOf iX4_numberOf_15 (rfl) rfl rfl rfl (Nat.le_of_ble_eq_true rfl) ⟨by decide, by decide⟩ ?_
        refine wa_if_eqB 24 dX4_numberOf_18 (by decide) (fun (c_18 : (isOfB (M.1 18 k) kind) = false) => ?_) (fun (c_18 : (isOfB (M.1 18 k) kind) = true) => ?_)
        · refine wa_iinc ((nI (k + 1))) [(3, .int (nI (k + 1))), (2, .int (nI (c))), (0, wm_r G (17)), (1, .int (kind))] dX4_numberOf_24 0 rfl (nI_inc _) (by decide) rfl ?_
          refine wa_goto 4 dX4_numberOf_27 (by decide) ?_
          exact ih_4 (k + 1) _ (by omega) (by omega) (by simp only [wCnt, c_18]; simp [hc])
        · refine wa_iinc ((nI (c + 1))) [(2, .int (nI (c + 1))), (3, .int (nI (k))), (0, wm_r G (17)), (1, .int (kind))] dX4_numberOf_21 1 rfl (nI_inc _) (by decide) rfl ?_
          refine wa_iinc ((nI (k + 1))) [(3, .int (nI (k + 1))), (2, .int (nI (c + 1))), (0, wm_r G (17)), (1, .int (kind))] dX4_numberOf_24 1 rfl (nI_inc _) (by decide) rfl ?_
          refine wa_goto 4 dX4_numberOf_27 (by decide) ?_
          exact ih_4 (k + 1) _ (by omega) (by omega) (by simp only [wCnt, c_18]; simp [hc])
  exact L_4 _ 0 0 (Nat.lt_succ_self _) (Nat.zero_le _) rfl

theorem m_rowOf {G : wm_G} {M : wm_M} (w h : Nat) (hW : TW M w h) (k : Nat) (hk : k < 100) (hw0 : 0 < w) : MD G t_X4_rowOf [wm_r G (17), .int (nI (k))] (M) (some (.int (nI (k / w)))) (M) := by
  have hn6 := TW_n hW
  obtain ⟨hw, hh, hw3, hh2⟩ := hW
  refine wm_met (by decide) (Nat.le_of_ble_eq_true rfl) ?_
  show WA G t_X4_rowOf (fun v_ N_ => v_ = some (.int (nI (k / w))) ∧ N_ = M) 0 [(0, wm_r G (17)), (1, .int (nI (k)))] [] (M)
  refine wa_aload_n dX4_rowOf_0 rfl 0 rfl ?_
  refine wa_geti gX4_rowOf_1 (rfl) rfl ?_
  refine wa_eqi (y := (nI (w))) (hw) ?_
  refine wa_if_leN (a := w) 16 dX4_rowOf_4 (by decide) (by omega) (fun c_4 => absurd c_4 (by omega)) (fun c_4 => ?_)
  refine wa_iload_n dX4_rowOf_7 rfl 1 rfl ?_
  refine wa_aload_n dX4_rowOf_8 rfl 0 rfl ?_
  refine wa_geti gX4_rowOf_9 (rfl) rfl ?_
  refine wa_eqi (y := (nI (w))) (hw) ?_
  refine wa_idivN (a := k) (b := w) dX4_rowOf_12 (by omega) (by omega) (by omega) ?_
  refine wa_goto 17 dX4_rowOf_13 (by decide) ?_
  exact wa_iret dX4_rowOf_17 rfl ⟨congrArg (fun z => some (Value.int z)) (rfl), rfl⟩

theorem m_sharedStreets {G : wm_G} {M : wm_M} (w h : Nat) (hW : TW M w h) : MD G t_X4_sharedStreets [wm_r G (17)] (M) (some (.int (nI ((if 1 < w then 1 else 0) + (if 1 < h then 1 else 0))))) (M) := by
  have hn6 := TW_n hW
  obtain ⟨hw, hh, hw3, hh2⟩ := hW
  refine wm_met (by decide) (Nat.le_of_ble_eq_true rfl) ?_
  show WA G t_X4_sharedStreets (fun v_ N_ => v_ = some (.int (nI ((if 1 < w then 1 else 0) + (if 1 < h then 1 else 0)))) ∧ N_ = M) 0 [(0, wm_r G (17))] [] (M)
  refine wa_aload_n dX4_sharedStreets_0 rfl 0 rfl ?_
  refine wa_geti gX4_sharedStreets_1 (rfl) rfl ?_
  refine wa_eqi (y := (nI (w))) (hw) ?_
  refine wa_iconst (1) dX4_sharedStreets_4 (by decide) ?_
  refine wa_icmp_leN (a := w) (b := 1) 12 dX4_sharedStreets_5 (by decide) (by omega) (by omega) (fun c_5 => ?_) (fun c_5 => ?_)
  · refine wa_iconst (0) dX4_sharedStreets_12 (by decide) ?_
    refine wa_aload_n dX4_sharedStreets_13 rfl 0 rfl ?_
    refine wa_geti gX4_sharedStreets_14 (rfl) rfl ?_
    refine wa_eqi (y := (nI (h))) (hh) ?_
    refine wa_iconst (1) dX4_sharedStreets_17 (by decide) ?_
    refine wa_icmp_leN (a := h) (b := 1) 25 dX4_sharedStreets_18 (by decide) (by omega) (by omega) (fun c_18 => ?_) (fun c_18 => ?_)
    · refine wa_iconst (0) dX4_sharedStreets_25 (by decide) ?_
      refine wa_iadd dX4_sharedStreets_26 ?_
      exact wa_iret dX4_sharedStreets_27 rfl ⟨congrArg (fun z => some (Value.int z)) (by first | (rw [if_neg (by omega), if_neg (by omega)]; rfl) | (rw [if_pos (by omega), if_neg (by omega)]; rfl) | (rw [if_neg (by omega), if_pos (by omega)]; rfl) | (rw [if_pos (by omega), if_pos (by omega)]; rfl)), rfl⟩
    · refine wa_iconst (1) dX4_sharedStreets_21 (by decide) ?_
      refine wa_goto 26 dX4_sharedStreets_22 (by decide) ?_
      refine wa_iadd dX4_sharedStreets_26 ?_
      exact wa_iret dX4_sharedStreets_27 rfl ⟨congrArg (fun z => some (Value.int z)) (by first | (rw [if_neg (by omega), if_neg (by omega)]; rfl) | (rw [if_pos (by omega), if_neg (by omega)]; rfl) | (rw [if_neg (by omega), if_pos (by omega)]; rfl) | (rw [if_pos (by omega), if_pos (by omega)]; rfl)), rfl⟩
  · refine wa_iconst (1) dX4_sharedStreets_8 (by decide) ?_
    refine wa_goto 13 dX4_sharedStreets_9 (by decide) ?_
    refine wa_aload_n dX4_sharedStreets_13 rfl 0 rfl ?_
    refine wa_geti gX4_sharedStreets_14 (rfl) rfl ?_
    refine wa_eqi (y := (nI (h))) (hh) ?_
    refine wa_iconst (1) dX4_sharedStreets_17 (by decide) ?_
    refine wa_icmp_leN (a := h) (b := 1) 25 dX4_sharedStreets_18 (by decide) (by omega) (by omega) (fun c_18 => ?_) (fun c_18 => ?_)
    · refine wa_iconst (0) dX4_sharedStreets_25 (by decide) ?_
      refine wa_iadd dX4_sharedStreets_26 ?_
      exact wa_iret dX4_sharedStreets_27 rfl ⟨congrArg (fun z => some (Value.int z)) (by first | (rw [if_neg (by omega), if_neg (by omega)]; rfl) | (rw [if_pos (by omega), if_neg (by omega)]; rfl) | (rw [if_neg (by omega), if_pos (by omega)]; rfl) | (rw [if_pos (by omega), if_pos (by omega)]; rfl)), rfl⟩
    · refine wa_iconst (1) dX4_sharedStreets_21 (by decide) ?_
      refine wa_goto 26 dX4_sharedStreets_22 (by decide) ?_
      refine wa_iadd dX4_sharedStreets_26 ?_
      exact wa_iret dX4_sharedStreets_27 rfl ⟨congrArg (fun z => some (Value.int z)) (by first | (rw [if_neg (by omega), if_neg (by omega)]; rfl) | (rw [if_pos (by omega), if_neg (by omega)]; rfl) | (rw [if_neg (by omega), if_pos (by omega)]; rfl) | (rw [if_pos (by omega), if_pos (by omega)]; rfl)), rfl⟩

theorem m_quarters {G : wm_G} {M : wm_M} (s k : Nat) (hs : s < 2 ^ 31) (hk : k < 6) : MD G t_X4_quarters [.int (nI (s)), .int (nI (k))] (M) (some (.int (nI (sQ s k)))) (M) := by
  refine wm_met (by decide) (Nat.le_of_ble_eq_true rfl) ?_
  show WA G t_X4_quarters (fun v_ N_ => v_ = some (.int (nI (sQ s k))) ∧ N_ = M) 0 [(0, .int (nI (s))), (1, .int (nI (k)))] [] (M)
  refine wa_iload_n dX4_quarters_0 rfl 0 rfl ?_
  refine wa_iconst (2) dX4_quarters_1 (by decide) ?_
  refine wa_iload_n dX4_quarters_2 rfl 1 rfl ?_
  refine wa_imulN (a := 2) (b := k) dX4_quarters_3 ?_
  refine wa_ishr dX4_quarters_4 ?_
  refine wa_iconst (3) dX4_quarters_5 (by decide) ?_
  refine wa_iand dX4_quarters_6 ?_
  refine wa_eqi (y := (nI (sQ s k))) (sh_q hs (by omega)) ?_
  exact wa_iret dX4_quarters_7 rfl ⟨congrArg (fun z => some (Value.int z)) (rfl), rfl⟩

theorem m_movedBy {G : wm_G} {M : wm_M} (s k m : Nat) (hs : s < 4096) (hk : k < 6) (hm : m < 4) : MD G t_X4_movedBy [.int (nI (s)), .int (nI (k)), .int (nI (m))] (M) (some (.int (nI (sMv s k m)))) (M) := by
  have hq := sQ_lt s k
  have hq2 := sQ_le s k
  have hp : 4 ^ k ≤ 1024 := by have : 4 ^ k ≤ 4 ^ 5 := Nat.pow_le_pow_right (by decide) (by omega); simpa using this
  refine wm_met (by decide) (Nat.le_of_ble_eq_true rfl) ?_
  show WA G t_X4_movedBy (fun v_ N_ => v_ = some (.int (nI (sMv s k m))) ∧ N_ = M) 0 [(0, .int (nI (s))), (1, .int (nI (k))), (2, .int (nI (m)))] [] (M)
  refine wa_iload_n dX4_movedBy_0 rfl 0 rfl ?_
  refine wa_iload_n dX4_movedBy_1 rfl 1 rfl ?_
  refine wa_cSi (m_quarters s k (by omega) hk) vX4_quarters iX4_movedBy_2 rfl rfl (Nat.le_of_ble_eq_true rfl) ⟨by decide, by decide⟩ ?_
  refine wa_istore_n [(3, .int (nI (sQ s k))), (0, .int (nI (s))), (1, .int (nI (k))), (2, .int (nI (m)))] dX4_movedBy_5 rfl (by decide) rfl ?_
  refine wa_iload_n dX4_movedBy_6 rfl 0 rfl ?_
  refine wa_iload_n dX4_movedBy_7 rfl 3 rfl ?_
  refine wa_iaddN (a := sQ s k) (b := m) dX4_movedBy_8 ?_
  refine wa_iconst (3) dX4_movedBy_9 (by decide) ?_
  refine wa_iand dX4_movedBy_10 ?_
  refine wa_eqi (y := (nI ((sQ s k + m) % 4))) (nI_and3 (by omega)) ?_
  refine wa_istore [(4, .int (nI ((sQ s k + m) % 4))), (3, .int (nI (sQ s k))), (0, .int (nI (s))), (1, .int (nI (k))), (2, .int (nI (m)))] dX4_movedBy_11 (by decide) rfl ?_
  refine wa_iload_n dX4_movedBy_13 rfl 2 rfl ?_
  refine wa_iload dX4_movedBy_14 0 rfl ?_
  refine wa_iload_n dX4_movedBy_16 rfl 1 rfl ?_
  refine wa_isub dX4_movedBy_17 ?_
  refine wa_iconst (2) dX4_movedBy_18 (by decide) ?_
  refine wa_iload_n dX4_movedBy_19 rfl 3 rfl ?_
  refine wa_imulN (a := 2) (b := k) dX4_movedBy_20 ?_
  refine wa_ishl dX4_movedBy_21 ?_
  refine wa_iadd dX4_movedBy_22 ?_
  refine wa_eqi (y := (nI (sMv s k m))) (sMv_i (by omega) hk) ?_
  exact wa_iret dX4_movedBy_23 rfl ⟨congrArg (fun z => some (Value.int z)) (rfl), rfl⟩

theorem m_moved {G : wm_G} {M : wm_M} (s k : Nat) (hs : s < 4096) (hk : k < 6) : MD G t_X4_moved [wm_r G (17), .int (nI (s)), .int (nI (k))] (M) (some (.int (nI (sMv s k (sStep (M.1 18 k)))))) (M) := by
  have hst := sStep_le (M.1 18 k)
  refine wm_met (by decide) (Nat.le_of_ble_eq_true rfl) ?_
  show WA G t_X4_moved (fun v_ N_ => v_ = some (.int (nI (sMv s k (sStep (M.1 18 k))))) ∧ N_ = M) 0 [(0, wm_r G (17)), (1, .int (nI (s))), (2, .int (nI (k)))] [] (M)
  refine wa_iload_n dX4_moved_0 rfl 1 rfl ?_
  refine wa_iload_n dX4_moved_1 rfl 2 rfl ?_
  refine wa_aload_n dX4_moved_2 rfl 0 rfl ?_
  refine wa_iload_n dX4_moved_3 rfl 2 rfl ?_
  refine wa_cVi (m_step k hk) vX4_step iX4_moved_4 (rfl) rfl rfl rfl (Nat.le_of_ble_eq_true rfl) ⟨by decide, by decide⟩ ?_
  refine wa_cSi (m_movedBy s k (sStep (M.1 18 k)) hs hk (by omega)) vX4_movedBy iX4_moved_7 rfl rfl (Nat.le_of_ble_eq_true rfl) ⟨by decide, by decide⟩ ?_
  exact wa_iret dX4_moved_10 rfl ⟨congrArg (fun z => some (Value.int z)) (rfl), rfl⟩

theorem m_turnsBetween {G : wm_G} {M : wm_M} (s s2 k : Nat) (hs : s < 4096) (hs2 : s2 < 4096) (hk : k < 6) : MD G t_X4_turnsBetween [wm_r G (17), .int (nI (s)), .int (nI (s2)), .int (nI (k))] (M) (some (.int (nI (if M.1 18 k = 3 then ((sQ s2 k + 4 - sQ s k) % 4) / 2 else (sQ s2 k + 4 - sQ s k) % 4)))) (M) := by
  have hq := sQ_lt s k
  have hq2 := sQ_lt s2 k
  refine wm_met (by decide) (Nat.le_of_ble_eq_true rfl) ?_
  show WA G t_X4_turnsBetween (fun v_ N_ => v_ = some (.int (nI (if M.1 18 k = 3 then ((sQ s2 k + 4 - sQ s k) % 4) / 2 else (sQ s2 k + 4 - sQ s k) % 4))) ∧ N_ = M) 0 [(0, wm_r G (17)), (1, .int (nI (s))), (2, .int (nI (s2))), (3, .int (nI (k)))] [] (M)
  refine wa_iload_n dX4_turnsBetween_0 rfl 2 rfl ?_
  refine wa_iload_n dX4_turnsBetween_1 rfl 3 rfl ?_
  refine wa_cSi (m_quarters s2 k (by omega) hk) vX4_quarters iX4_turnsBetween_2 rfl rfl (Nat.le_of_ble_eq_true rfl) ⟨by decide, by decide⟩ ?_
  refine wa_iload_n dX4_turnsBetween_5 rfl 1 rfl ?_
  refine wa_iload_n dX4_turnsBetween_6 rfl 3 rfl ?_
  refine wa_cSi (m_quarters s k (by omega) hk) vX4_quarters iX4_turnsBetween_7 rfl rfl (Nat.le_of_ble_eq_true rfl) ⟨by decide, by decide⟩ ?_
  refine wa_isub dX4_turnsBetween_10 ?_
  refine wa_iconst (3) dX4_turnsBetween_11 (by decide) ?_
  refine wa_iand dX4_turnsBetween_12 ?_
  refine wa_eqi (y := (nI ((sQ s2 k + 4 - sQ s k) % 4))) (nI_sub3 hq2 hq) ?_
  refine wa_istore [(4, .int (nI ((sQ s2 k + 4 - sQ s k) % 4))), (0, wm_r G (17)), (1, .int (nI (s))), (2, .int (nI (s2))), (3, .int (nI (k)))] dX4_turnsBetween_13 (by decide) rfl ?_
  refine wa_aload_n dX4_turnsBetween_15 rfl 1 rfl ?_
  refine wa_getr gX4_turnsBetween_16 (rfl) rfl ?_
  refine wa_iload_n dX4_turnsBetween_19 rfl 4 rfl ?_
  refine wa_ialdN (e := k) dX4_turnsBetween_20 (rfl) (by omega) (by decide) ?_
  refine wa_iconst (3) dX4_turnsBetween_21 (by decide) ?_
  refine wa_icmp_ne 32 dX4_turnsBetween_22 (by decide) (fun c_22 => ?_) (fun c_22 => ?_)
  · refine wa_iload dX4_turnsBetween_32 0 rfl ?_
    exact wa_iret dX4_turnsBetween_34 rfl ⟨congrArg (fun z => some (Value.int z)) (by first | (rw [if_pos c_22]) | (rw [if_neg c_22])), rfl⟩
  · refine wa_iload dX4_turnsBetween_25 0 rfl ?_
    refine wa_iconst (2) dX4_turnsBetween_27 (by decide) ?_
    refine wa_idivN (a := (sQ s2 k + 4 - sQ s k) % 4) (b := 2) dX4_turnsBetween_28 (by omega) (by omega) (by omega) ?_
    refine wa_goto 34 dX4_turnsBetween_29 (by decide) ?_
    exact wa_iret dX4_turnsBetween_34 rfl ⟨congrArg (fun z => some (Value.int z)) (by first | (rw [if_pos c_22]) | (rw [if_neg c_22])), rfl⟩

theorem m_length {G : wm_G} {M : wm_M} (w h : Nat) (hW : TW M w h) (st : Nat) (hst : st < 100) : MD G t_X4_length [wm_r G (17), .int (nI (st))] (M) (some (.int (nI (sLen w h st)))) (M) := by
  have hn6 := TW_n hW
  obtain ⟨hw, hh, hw3, hh2⟩ := hW
  refine wm_met (by decide) (Nat.le_of_ble_eq_true rfl) ?_
  show WA G t_X4_length (fun v_ N_ => v_ = some (.int (nI (sLen w h st))) ∧ N_ = M) 0 [(0, wm_r G (17)), (1, .int (nI (st)))] [] (M)
  refine wa_iload_n dX4_length_0 rfl 1 rfl ?_
  refine wa_aload_n dX4_length_1 rfl 0 rfl ?_
  refine wa_geti gX4_length_2 (rfl) rfl ?_
  refine wa_eqi (y := (nI (h))) (hh) ?_
  refine wa_icmp_geN (a := st) (b := h) 15 dX4_length_5 (by decide) (by omega) (by omega) (fun c_5 => ?_) (fun c_5 => ?_)
  · refine wa_aload_n dX4_length_15 rfl 0 rfl ?_
    refine wa_geti gX4_length_16 (rfl) rfl ?_
    refine wa_eqi (y := (nI (h))) (hh) ?_
    exact wa_iret dX4_length_19 rfl ⟨congrArg (fun z => some (Value.int z)) (by unfold sLen; first | (rw [if_pos c_5]) | (rw [if_neg (by omega)])), rfl⟩
  · refine wa_aload_n dX4_length_8 rfl 0 rfl ?_
    refine wa_geti gX4_length_9 (rfl) rfl ?_
    refine wa_eqi (y := (nI (w))) (hw) ?_
    refine wa_goto 19 dX4_length_12 (by decide) ?_
    exact wa_iret dX4_length_19 rfl ⟨congrArg (fun z => some (Value.int z)) (by unfold sLen; first | (rw [if_pos c_5]) | (rw [if_neg (by omega)])), rfl⟩

theorem m_stoneAt {G : wm_G} {M : wm_M} (w h : Nat) (hW : TW M w h) (st e i : Nat) (hst : st < 100) (he : e < 2) (hi : i < sLen w h st) : MD G t_X4_stoneAt [wm_r G (17), .int (nI (st)), .int (nI (e)), .int (nI (i))] (M) (some (.int (nI (sAt w h st e i)))) (M) := by
  have hW2 := hW
  have hn6 := TW_n hW
  obtain ⟨hw, hh, hw3, hh2⟩ := hW
  have hl : sLen w h st ≤ 3 := by unfold sLen; split <;> omega
  refine wm_met (by decide) (Nat.le_of_ble_eq_true rfl) ?_
  show WA G t_X4_stoneAt (fun v_ N_ => v_ = some (.int (nI (sAt w h st e i))) ∧ N_ = M) 0 [(0, wm_r G (17)), (1, .int (nI (st))), (2, .int (nI (e))), (3, .int (nI (i)))] [] (M)
  refine wa_iload_n dX4_stoneAt_0 rfl 2 rfl ?_
  refine wa_if_neN (a := e) 8 dX4_stoneAt_1 (by decide) (by omega) (fun c_1 => ?_) (fun c_1 => ?_)
  · refine wa_aload_n dX4_stoneAt_8 rfl 0 rfl ?_
    refine wa_iload_n dX4_stoneAt_9 rfl 1 rfl ?_
    refine wa_cVi (m_length w h hW2 st hst) vX4_length iX4_stoneAt_10 (rfl) rfl rfl rfl (Nat.le_of_ble_eq_true rfl) ⟨by decide, by decide⟩ ?_
    refine wa_iconst (1) dX4_stoneAt_13 (by decide) ?_
    refine wa_isubN (a := sLen w h st) (b := 1) dX4_stoneAt_14 (by omega) ?_
    refine wa_iload_n dX4_stoneAt_15 rfl 3 rfl ?_
    refine wa_isubN (a := (sLen w h st) - (1)) (b := i) dX4_stoneAt_16 (by omega) ?_
    refine wa_istore [(4, .int (nI (((sLen w h st) - (1)) - (i)))), (0, wm_r G (17)), (1, .int (nI (st))), (2, .int (nI (e))), (3, .int (nI (i)))] dX4_stoneAt_17 (by decide) rfl ?_
    refine wa_iload_n dX4_stoneAt_19 rfl 2 rfl ?_
    refine wa_aload_n dX4_stoneAt_20 rfl 1 rfl ?_
    refine wa_geti gX4_stoneAt_21 (rfl) rfl ?_
    refine wa_eqi (y := (nI (h))) (hh) ?_
    refine wa_icmp_geN (a := st) (b := h) 39 dX4_stoneAt_24 (by decide) (by omega) (by omega) (fun c_24 => ?_) (fun c_24 => ?_)
    · refine wa_iload dX4_stoneAt_39 0 rfl ?_
      refine wa_aload_n dX4_stoneAt_41 rfl 1 rfl ?_
      refine wa_geti gX4_stoneAt_42 (rfl) rfl ?_
      refine wa_eqi (y := (nI (w))) (hw) ?_
      refine wa_imulN (a := ((sLen w h st) - (1)) - (i)) (b := w) dX4_stoneAt_45 ?_
      refine wa_iload_n dX4_stoneAt_46 rfl 2 rfl ?_
      refine wa_iaddN (a := (((sLen w h st) - (1)) - (i)) * w) (b := st) dX4_stoneAt_47 ?_
      refine wa_aload_n dX4_stoneAt_48 rfl 1 rfl ?_
      refine wa_geti gX4_stoneAt_49 (rfl) rfl ?_
      refine wa_eqi (y := (nI (h))) (hh) ?_
      refine wa_isubN (a := ((((sLen w h st) - (1)) - (i)) * w) + st) (b := h) dX4_stoneAt_52 (by omega) ?_
      exact wa_iret dX4_stoneAt_53 rfl ⟨congrArg (fun z => some (Value.int z)) (by first | (have h9 : ¬ st < h := (by omega); simp [sAt, sLen, h9, c_1]; done) | (simp [sAt, sLen, c_24, c_1]; done)), rfl⟩
    · refine wa_iload_n dX4_stoneAt_27 rfl 2 rfl ?_
      refine wa_aload_n dX4_stoneAt_28 rfl 1 rfl ?_
      refine wa_geti gX4_stoneAt_29 (rfl) rfl ?_
      refine wa_eqi (y := (nI (w))) (hw) ?_
      refine wa_imulN (a := st) (b := w) dX4_stoneAt_32 ?_
      refine wa_iload dX4_stoneAt_33 0 rfl ?_
      refine wa_iaddN (a := st * w) (b := ((sLen w h st) - (1)) - (i)) dX4_stoneAt_35 ?_
      refine wa_goto 53 dX4_stoneAt_36 (by decide) ?_
      exact wa_iret dX4_stoneAt_53 rfl ⟨congrArg (fun z => some (Value.int z)) (by first | (have h9 : ¬ st < h := (by omega); simp [sAt, sLen, h9, c_1]; done) | (simp [sAt, sLen, c_24, c_1]; done)), rfl⟩
  · refine wa_iload_n dX4_stoneAt_4 rfl 3 rfl ?_
    refine wa_goto 17 dX4_stoneAt_5 (by decide) ?_
    refine wa_istore [(4, .int (nI (i))), (0, wm_r G (17)), (1, .int (nI (st))), (2, .int (nI (e))), (3, .int (nI (i)))] dX4_stoneAt_17 (by decide) rfl ?_
    refine wa_iload_n dX4_stoneAt_19 rfl 2 rfl ?_
    refine wa_aload_n dX4_stoneAt_20 rfl 1 rfl ?_
    refine wa_geti gX4_stoneAt_21 (rfl) rfl ?_
    refine wa_eqi (y := (nI (h))) (hh) ?_
    refine wa_icmp_geN (a := st) (b := h) 39 dX4_stoneAt_24 (by decide) (by omega) (by omega) (fun c_24 => ?_) (fun c_24 => ?_)
    · refine wa_iload dX4_stoneAt_39 0 rfl ?_
      refine wa_aload_n dX4_stoneAt_41 rfl 1 rfl ?_
      refine wa_geti gX4_stoneAt_42 (rfl) rfl ?_
      refine wa_eqi (y := (nI (w))) (hw) ?_
      refine wa_imulN (a := i) (b := w) dX4_stoneAt_45 ?_
      refine wa_iload_n dX4_stoneAt_46 rfl 2 rfl ?_
      refine wa_iaddN (a := i * w) (b := st) dX4_stoneAt_47 ?_
      refine wa_aload_n dX4_stoneAt_48 rfl 1 rfl ?_
      refine wa_geti gX4_stoneAt_49 (rfl) rfl ?_
      refine wa_eqi (y := (nI (h))) (hh) ?_
      refine wa_isubN (a := i * w + st) (b := h) dX4_stoneAt_52 (by omega) ?_
      exact wa_iret dX4_stoneAt_53 rfl ⟨congrArg (fun z => some (Value.int z)) (by first | (have h9 : ¬ st < h := (by omega); simp [sAt, sLen, h9, c_1]; done) | (simp [sAt, sLen, c_24, c_1]; done)), rfl⟩
    · refine wa_iload_n dX4_stoneAt_27 rfl 2 rfl ?_
      refine wa_aload_n dX4_stoneAt_28 rfl 1 rfl ?_
      refine wa_geti gX4_stoneAt_29 (rfl) rfl ?_
      refine wa_eqi (y := (nI (w))) (hw) ?_
      refine wa_imulN (a := st) (b := w) dX4_stoneAt_32 ?_
      refine wa_iload dX4_stoneAt_33 0 rfl ?_
      refine wa_iaddN (a := st * w) (b := i) dX4_stoneAt_35 ?_
      refine wa_goto 53 dX4_stoneAt_36 (by decide) ?_
      exact wa_iret dX4_stoneAt_53 rfl ⟨congrArg (fun z => some (Value.int z)) (by first | (have h9 : ¬ st < h := (by omega); simp [sAt, sLen, h9, c_1]; done) | (simp [sAt, sLen, c_24, c_1]; done)), rfl⟩

theorem m_firstSide {G : wm_G} {M : wm_M} (w h : Nat) (hW : TW M w h) (st e : Nat) (hst : st < 100) : MD G t_X4_firstSide [wm_r G (17), .int (nI (st)), .int (nI (e))] (M) (some (.int (nI (sFst h st e)))) (M) := by
  have hn6 := TW_n hW
  obtain ⟨hw, hh, hw3, hh2⟩ := hW
  refine wm_met (by decide) (Nat.le_of_ble_eq_true rfl) ?_
  show WA G t_X4_firstSide (fun v_ N_ => v_ = some (.int (nI (sFst h st e))) ∧ N_ = M) 0 [(0, wm_r G (17)), (1, .int (nI (st))), (2, .int (nI (e)))] [] (M)
  refine wa_iload_n dX4_firstSide_0 rfl 1 rfl ?_
  refine wa_aload_n dX4_firstSide_1 rfl 0 rfl ?_
  refine wa_geti gX4_firstSide_2 (rfl) rfl ?_
  refine wa_eqi (y := (nI (h))) (hh) ?_
  refine wa_icmp_geN (a := st) (b := h) 12 dX4_firstSide_5 (by decide) (by omega) (by omega) (fun c_5 => ?_) (fun c_5 => ?_)
  · refine wa_iconst (1) dX4_firstSide_12 (by decide) ?_
    refine wa_iconst (2) dX4_firstSide_13 (by decide) ?_
    refine wa_iload_n dX4_firstSide_14 rfl 2 rfl ?_
    refine wa_imulN (a := 2) (b := e) dX4_firstSide_15 ?_
    refine wa_iaddN (a := 1) (b := 2 * e) dX4_firstSide_16 ?_
    exact wa_iret dX4_firstSide_17 rfl ⟨congrArg (fun z => some (Value.int z)) (by unfold sFst; first | (rw [if_pos c_5]) | (rw [if_neg (by omega)])), rfl⟩
  · refine wa_iconst (0) dX4_firstSide_8 (by decide) ?_
    refine wa_goto 13 dX4_firstSide_9 (by decide) ?_
    refine wa_iconst (2) dX4_firstSide_13 (by decide) ?_
    refine wa_iload_n dX4_firstSide_14 rfl 2 rfl ?_
    refine wa_imulN (a := 2) (b := e) dX4_firstSide_15 ?_
    refine wa_iaddN (a := 0) (b := 2 * e) dX4_firstSide_16 ?_
    exact wa_iret dX4_firstSide_17 rfl ⟨congrArg (fun z => some (Value.int z)) (by unfold sFst; first | (rw [if_pos c_5]) | (rw [if_neg (by omega)])), rfl⟩

theorem m_sideRead {G : wm_G} {M : wm_M} (w h : Nat) (hW : TW M w h) (s k st e : Nat) (hs : s < 4096) (hk : k < 6) (hst : st < 100) (he : e < 2) : MD G t_X4_sideRead [wm_r G (17), .int (nI (s)), .int (nI (k)), .int (nI (st)), .int (nI (e))] (M) (some (.int (nI ((sQ s k + sFst h st e) % 4)))) (M) := by
  have hq := sQ_lt s k
  have hf : sFst h st e < 10 := by unfold sFst; split <;> omega
  refine wm_met (by decide) (Nat.le_of_ble_eq_true rfl) ?_
  show WA G t_X4_sideRead (fun v_ N_ => v_ = some (.int (nI ((sQ s k + sFst h st e) % 4))) ∧ N_ = M) 0 [(0, wm_r G (17)), (1, .int (nI (s))), (2, .int (nI (k))), (3, .int (nI (st))), (4, .int (nI (e)))] [] (M)
  refine wa_iload_n dX4_sideRead_0 rfl 1 rfl ?_
  refine wa_iload_n dX4_sideRead_1 rfl 2 rfl ?_
  refine wa_cSi (m_quarters s k (by omega) hk) vX4_quarters iX4_sideRead_2 rfl rfl (Nat.le_of_ble_eq_true rfl) ⟨by decide, by decide⟩ ?_
  refine wa_aload_n dX4_sideRead_5 rfl 0 rfl ?_
  refine wa_iload_n dX4_sideRead_6 rfl 3 rfl ?_
  refine wa_iload dX4_sideRead_7 4 rfl ?_
  refine wa_cVi (m_firstSide w h hW st e hst) vX4_firstSide iX4_sideRead_9 (rfl) rfl rfl rfl (Nat.le_of_ble_eq_true rfl) ⟨by decide, by decide⟩ ?_
  refine wa_iaddN (a := sQ s k) (b := sFst h st e) dX4_sideRead_12 ?_
  refine wa_iconst (3) dX4_sideRead_13 (by decide) ?_
  refine wa_iand dX4_sideRead_14 ?_
  refine wa_eqi (y := (nI ((sQ s k + sFst h st e) % 4))) (nI_and3 (by omega)) ?_
  exact wa_iret dX4_sideRead_15 rfl ⟨congrArg (fun z => some (Value.int z)) (rfl), rfl⟩

theorem m_shown {G : wm_G} {M : wm_M} (k side : Nat) (hk : k < 6) (hs : side < 4) : MD G t_X4_shown [wm_r G (17), .int (nI (k)), .int (nI (side))] (M) (some (.int (sShow (M.1 18) (M.1 19) k side))) (M) := by
  refine wm_met (by decide) (Nat.le_of_ble_eq_true rfl) ?_
  show WA G t_X4_shown (fun v_ N_ => v_ = some (.int (sShow (M.1 18) (M.1 19) k side)) ∧ N_ = M) 0 [(0, wm_r G (17)), (1, .int (nI (k))), (2, .int (nI (side)))] [] (M)
  refine wa_aload_n dX4_shown_0 rfl 0 rfl ?_
  refine wa_getr gX4_shown_1 (rfl) rfl ?_
  refine wa_iload_n dX4_shown_4 rfl 1 rfl ?_
  refine wa_ialdN (e := k) dX4_shown_5 (rfl) (by omega) (by decide) ?_
  refine wa_iconst (5) dX4_shown_6 (by decide) ?_
  refine wa_icmp_ne 14 dX4_shown_7 (by decide) (fun c_7 => ?_) (fun c_7 => ?_)
  · refine wa_aload_n dX4_shown_14 rfl 0 rfl ?_
    refine wa_getr gX4_shown_15 (rfl) rfl ?_
    refine wa_iconst (4) dX4_shown_18 (by decide) ?_
    refine wa_iload_n dX4_shown_19 rfl 1 rfl ?_
    refine wa_imulN (a := 4) (b := k) dX4_shown_20 ?_
    refine wa_iload_n dX4_shown_21 rfl 2 rfl ?_
    refine wa_iaddN (a := 4 * k) (b := side) dX4_shown_22 ?_
    refine wa_ialdN (e := 4 * k + side) dX4_shown_23 (rfl) (by omega) (by decide) ?_
    exact wa_iret dX4_shown_24 rfl ⟨congrArg (fun z => some (Value.int z)) (by unfold sShow; first | (rw [if_pos c_7]) | (rw [if_neg c_7])), rfl⟩
  · refine wa_iconst (-1) dX4_shown_10 (by decide) ?_
    refine wa_goto 24 dX4_shown_11 (by decide) ?_
    exact wa_iret dX4_shown_24 rfl ⟨congrArg (fun z => some (Value.int z)) (by unfold sShow; first | (rw [if_pos c_7]) | (rw [if_neg c_7])), rfl⟩

theorem m_isMendable {G : wm_G} {M : wm_M} (k side : Nat) (hk : k < 6) : MD G t_X4_isMendable [wm_r G (17), .int (nI (k)), .int (nI (side))] (M) (some (.int (wB (!decide (M.1 18 k = 5) && !decide (M.1 20 k = nI side))))) (M) := by
  refine wm_met (by decide) (Nat.le_of_ble_eq_true rfl) ?_
  show WA G t_X4_isMendable (fun v_ N_ => v_ = some (.int (wB (!decide (M.1 18 k = 5) && !decide (M.1 20 k = nI side)))) ∧ N_ = M) 0 [(0, wm_r G (17)), (1, .int (nI (k))), (2, .int (nI (side)))] [] (M)
  refine wa_aload_n dX4_isMendable_0 rfl 0 rfl ?_
  refine wa_getr gX4_isMendable_1 (rfl) rfl ?_
  refine wa_iload_n dX4_isMendable_4 rfl 1 rfl ?_
  refine wa_ialdN (e := k) dX4_isMendable_5 (rfl) (by omega) (by decide) ?_
  refine wa_iconst (5) dX4_isMendable_6 (by decide) ?_
  refine wa_icmp_eq 24 dX4_isMendable_7 (by decide) (fun c_7 => ?_) (fun c_7 => ?_)
  · refine wa_iconst (0) dX4_isMendable_24 (by decide) ?_
    exact wa_zret dX4_isMendable_25 rfl (by decide) ⟨congrArg (fun z => some (Value.int z)) (by simp_all [wB]), rfl⟩
  · refine wa_aload_n dX4_isMendable_10 rfl 0 rfl ?_
    refine wa_getr gX4_isMendable_11 (rfl) rfl ?_
    refine wa_iload_n dX4_isMendable_14 rfl 1 rfl ?_
    refine wa_ialdN (e := k) dX4_isMendable_15 (rfl) (by omega) (by decide) ?_
    refine wa_iload_n dX4_isMendable_16 rfl 2 rfl ?_
    refine wa_icmp_eq 24 dX4_isMendable_17 (by decide) (fun c_17 => ?_) (fun c_17 => ?_)
    · refine wa_iconst (0) dX4_isMendable_24 (by decide) ?_
      exact wa_zret dX4_isMendable_25 rfl (by decide) ⟨congrArg (fun z => some (Value.int z)) (by simp_all [wB]), rfl⟩
    · refine wa_iconst (1) dX4_isMendable_20 (by decide) ?_
      refine wa_goto 25 dX4_isMendable_21 (by decide) ?_
      exact wa_zret dX4_isMendable_25 rfl (by decide) ⟨congrArg (fun z => some (Value.int z)) (by simp_all [wB]), rfl⟩
