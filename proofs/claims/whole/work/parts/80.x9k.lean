theorem c_lose_bad {G : wm_G} {M : wm_M} (w h rn s yr : Nat) (ci : CI M w h rn s yr) (n : Int32) (hn : wIn n (rn + 1) = false) : MD G t_X9_lose [wm_r G (0), .int (n)] (M) (some (.int (-1))) (M) := by
  obtain ⟨⟨hW, hwh⟩, hSt, ⟨h12, h13, hyr, hs4, hsh⟩, hRo, hTx, hLw, hKp, hRO, ⟨hL1, hL10, hL29, hL58⟩, hSe, hDy⟩ := id ci
  have hn6 := TW_n hW
  have hs : s < 4096 := Nat.lt_of_lt_of_le hs4 (p4_le hn6)
  have hw3 := hW.2.2.1
  have hh2 := hW.2.2.2
  refine wm_met (by decide) (Nat.le_of_ble_eq_true rfl) ?_
  show WA G t_X9_lose (fun v_ N_ => v_ = some (.int (-1)) ∧ N_ = M) 0 [(0, wm_r G (0)), (1, .int (n))] [] (M)
  refine wa_iload_n dX9_lose_0 rfl 1 rfl ?_
  refine wa_if_lt 15 dX9_lose_1 (by decide) (fun c_1 => ?_) (fun c_1 => ?_)
  · refine wa_iconst (-1) dX9_lose_15 (by decide) ?_
    exact wa_iret dX9_lose_16 rfl ⟨congrArg (fun z => some (Value.int z)) (rfl), rfl⟩
  · refine wa_iload_n dX9_lose_4 rfl 1 rfl ?_
    refine wa_aload_n dX9_lose_5 rfl 0 rfl ?_
    refine wa_getr gX9_lose_6 (rfl) rfl ?_
    refine wa_geti gX9_lose_9 (rfl) rfl ?_
    refine wa_eqi (y := (nI (rn))) (hRO.1) ?_
    refine wa_icmp_le 17 dX9_lose_12 (by decide) (fun c_12 => absurd (wIn_le (m := rn) (by have := hRO.2.1; omega) c_1 c_12) (by rw [hn]; decide)) (fun c_12 => ?_)
    refine wa_iconst (-1) dX9_lose_15 (by decide) ?_
    exact wa_iret dX9_lose_16 rfl ⟨congrArg (fun z => some (Value.int z)) (rfl), rfl⟩

theorem c_lose_ok {G : wm_G} {M : wm_M} (w h rn s yr : Nat) (ci : CI M w h rn s yr) (n : Nat) (hn : n ≤ rn) : MD G t_X9_lose [wm_r G (0), .int (nI (n))] (M) (some (.int (nI (rn - n)))) (wI M 54 0 (nI n)) := by
  obtain ⟨⟨hW, hwh⟩, hSt, ⟨h12, h13, hyr, hs4, hsh⟩, hRo, hTx, hLw, hKp, hRO, ⟨hL1, hL10, hL29, hL58⟩, hSe, hDy⟩ := id ci
  have hn6 := TW_n hW
  have hs : s < 4096 := Nat.lt_of_lt_of_le hs4 (p4_le hn6)
  have hw3 := hW.2.2.1
  have hh2 := hW.2.2.2
  have hr4 := hRO.2.1
  refine wm_met (by decide) (Nat.le_of_ble_eq_true rfl) ?_
  show WA G t_X9_lose (fun v_ N_ => v_ = some (.int (nI (rn - n))) ∧ N_ = wI M 54 0 (nI n)) 0 [(0, wm_r G (0)), (1, .int (nI (n)))] [] (M)
  refine wa_iload_n dX9_lose_0 rfl 1 rfl ?_
  refine wa_if_ltN (a := n) 15 dX9_lose_1 (by decide) (by omega) (fun c_1 => absurd c_1 (by omega)) (fun c_1 => ?_)
  refine wa_iload_n dX9_lose_4 rfl 1 rfl ?_
  refine wa_aload_n dX9_lose_5 rfl 0 rfl ?_
  refine wa_getr gX9_lose_6 (rfl) rfl ?_
  refine wa_geti gX9_lose_9 (rfl) rfl ?_
  refine wa_eqi (y := (nI (rn))) (hRO.1) ?_
  refine wa_icmp_leN (a := n) (b := rn) 17 dX9_lose_12 (by decide) (by omega) (by omega) (fun c_12 => ?_) (fun c_12 => absurd c_12 (by omega))
  refine wa_aload_n dX9_lose_17 rfl 0 rfl ?_
  refine wa_getr gX9_lose_18 (rfl) rfl ?_
  refine wa_geti gX9_lose_21 (rfl) rfl ?_
  refine wa_eqi (y := (nI (rn))) (hRO.1) ?_
  refine wa_istore_n [(2, .int (nI (rn))), (0, wm_r G (0)), (1, .int (nI (n)))] dX9_lose_24 rfl (by decide) rfl ?_
  refine wa_aload_n dX9_lose_25 rfl 1 rfl ?_
  refine wa_getr gX9_lose_26 (rfl) rfl ?_
  refine wa_iload_n dX9_lose_29 rfl 2 rfl ?_
  refine wa_cVv (m_dropFrom n rn (by omega) hRO.2.1 hRO.1) vX2_dropFrom iX9_lose_30 (rfl) rfl rfl rfl (Nat.le_of_ble_eq_true rfl) ⟨by decide, by decide⟩ ?_
  refine wa_eqm (M' := wI M 54 0 (nI n)) (by by_cases q : n < rn; (rw [if_pos q]); (rw [if_neg q, wI_self (by rw [hRO.1, show n = rn by omega])])) ?_
  refine wa_iload_n dX9_lose_33 rfl 0 rfl ?_
  refine wa_iload_n dX9_lose_34 rfl 2 rfl ?_
  refine wa_isubN (a := rn) (b := n) dX9_lose_35 (by omega) ?_
  exact wa_iret dX9_lose_36 rfl ⟨congrArg (fun z => some (Value.int z)) (rfl), rfl⟩

theorem m_isTY {G : wm_G} {M : wm_M} (n : Int32) : MD G t_X9_isToldYear [.int (n)] (M) (some (.int (wB (wIn n 10)))) (M) := by
  refine wm_met (by decide) (Nat.le_of_ble_eq_true rfl) ?_
  show WA G t_X9_isToldYear (fun v_ N_ => v_ = some (.int (wB (wIn n 10))) ∧ N_ = M) 0 [(0, .int (n))] [] (M)
  refine wa_iload_n dX9_isToldYear_0 rfl 0 rfl ?_
  refine wa_if_lt 14 dX9_isToldYear_1 (by decide) (fun c_1 => ?_) (fun c_1 => ?_)
  · refine wa_iconst (0) dX9_isToldYear_14 (by decide) ?_
    exact wa_zret dX9_isToldYear_15 rfl (by decide) ⟨congrArg (fun z => some (Value.int z)) (by first | (rw [wIn_neg c_1]; rfl) | (rw [wIn_gt (m := 9) (by decide) c_7]; rfl) | (rw [wIn_le (m := 9) (by decide) c_1 (Int32.not_lt.mp c_7)]; rfl)), rfl⟩
  · refine wa_iload_n dX9_isToldYear_4 rfl 0 rfl ?_
    refine wa_bipush (9) dX9_isToldYear_5 (by decide) ?_
    refine wa_icmp_gt 14 dX9_isToldYear_7 (by decide) (fun c_7 => ?_) (fun c_7 => ?_)
    · refine wa_iconst (0) dX9_isToldYear_14 (by decide) ?_
      exact wa_zret dX9_isToldYear_15 rfl (by decide) ⟨congrArg (fun z => some (Value.int z)) (by first | (rw [wIn_neg c_1]; rfl) | (rw [wIn_gt (m := 9) (by decide) c_7]; rfl) | (rw [wIn_le (m := 9) (by decide) c_1 (Int32.not_lt.mp c_7)]; rfl)), rfl⟩
    · refine wa_iconst (1) dX9_isToldYear_10 (by decide) ?_
      refine wa_goto 15 dX9_isToldYear_11 (by decide) ?_
      exact wa_zret dX9_isToldYear_15 rfl (by decide) ⟨congrArg (fun z => some (Value.int z)) (by first | (rw [wIn_neg c_1]; rfl) | (rw [wIn_gt (m := 9) (by decide) c_7]; rfl) | (rw [wIn_le (m := 9) (by decide) c_1 (Int32.not_lt.mp c_7)]; rfl)), rfl⟩

theorem m_isLS {G : wm_G} {M : wm_M} (n : Int32) : MD G t_X9_isLawSet [.int (n)] (M) (some (.int (wB (wIn n 16)))) (M) := by
  refine wm_met (by decide) (Nat.le_of_ble_eq_true rfl) ?_
  show WA G t_X9_isLawSet (fun v_ N_ => v_ = some (.int (wB (wIn n 16))) ∧ N_ = M) 0 [(0, .int (n))] [] (M)
  refine wa_iload_n dX9_isLawSet_0 rfl 0 rfl ?_
  refine wa_if_lt 14 dX9_isLawSet_1 (by decide) (fun c_1 => ?_) (fun c_1 => ?_)
  · refine wa_iconst (0) dX9_isLawSet_14 (by decide) ?_
    exact wa_zret dX9_isLawSet_15 rfl (by decide) ⟨congrArg (fun z => some (Value.int z)) (by first | (rw [wIn_neg c_1]; rfl) | (rw [wIn_ge (m := 16) (by decide) c_7]; rfl) | (rw [wIn_of (m := 16) (by decide) c_1 c_7]; rfl)), rfl⟩
  · refine wa_iload_n dX9_isLawSet_4 rfl 0 rfl ?_
    refine wa_bipush (16) dX9_isLawSet_5 (by decide) ?_
    refine wa_icmp_ge 14 dX9_isLawSet_7 (by decide) (fun c_7 => ?_) (fun c_7 => ?_)
    · refine wa_iconst (0) dX9_isLawSet_14 (by decide) ?_
      exact wa_zret dX9_isLawSet_15 rfl (by decide) ⟨congrArg (fun z => some (Value.int z)) (by first | (rw [wIn_neg c_1]; rfl) | (rw [wIn_ge (m := 16) (by decide) c_7]; rfl) | (rw [wIn_of (m := 16) (by decide) c_1 c_7]; rfl)), rfl⟩
    · refine wa_iconst (1) dX9_isLawSet_10 (by decide) ?_
      refine wa_goto 15 dX9_isLawSet_11 (by decide) ?_
      exact wa_zret dX9_isLawSet_15 rfl (by decide) ⟨congrArg (fun z => some (Value.int z)) (by first | (rw [wIn_neg c_1]; rfl) | (rw [wIn_ge (m := 16) (by decide) c_7]; rfl) | (rw [wIn_of (m := 16) (by decide) c_1 c_7]; rfl)), rfl⟩
