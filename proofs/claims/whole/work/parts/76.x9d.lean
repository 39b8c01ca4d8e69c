theorem m_stTl0 {G : wm_G} {M : wm_M} (w h rn s yr : Nat) (ci : CI M w h rn s yr) (k : Nat) (hk : k < w * h) : MD G t_X9_stoneTells [wm_r G (0), .int (nI (k)), .int (nI (0))] (M) (some (.int (M.1 18 k))) (M) := by
  obtain ⟨⟨hW, hwh⟩, hSt, ⟨h12, h13, hyr, hs4, hsh⟩, hRo, hTx, hLw, hKp, hRO, ⟨hL1, hL10, hL29, hL58⟩, hSe, hDy⟩ := id ci
  have hn6 := TW_n hW
  have hs : s < 4096 := Nat.lt_of_lt_of_le hs4 (p4_le hn6)
  have hw3 := hW.2.2.1
  have hh2 := hW.2.2.2
  refine wm_met (by decide) (Nat.le_of_ble_eq_true rfl) ?_
  show WA G t_X9_stoneTells (fun v_ N_ => v_ = some (.int (M.1 18 k)) ∧ N_ = M) 0 [(0, wm_r G (0)), (1, .int (nI (k))), (2, .int (nI (0)))] [] (M)
  refine wa_iload_n dX9_stoneTells_0 rfl 2 rfl ?_
  by_cases s_1_0 : ((nI (0))) = (0)
  · rw [s_1_0]
    refine wa_lookup (off := 27) 28 dX9_stoneTells_1 (by decide) (by decide) (by decide) ?_
    refine wa_aload_n dX9_stoneTells_28 rfl 0 rfl ?_
    refine wa_getr gX9_stoneTells_29 (rfl) rfl ?_
    refine wa_getr gX9_stoneTells_32 (rfl) rfl ?_
    refine wa_iload_n dX9_stoneTells_35 rfl 1 rfl ?_
    refine wa_ialdN (e := k) dX9_stoneTells_36 (rfl) (by omega) (by decide) ?_
    exact wa_iret dX9_stoneTells_37 rfl ⟨congrArg (fun z => some (Value.int z)) (rfl), rfl⟩
  have s_1_1 : ¬ ((nI (0))) = (1) := by decide
  exact absurd (by decide) s_1_0

theorem m_stTl1 {G : wm_G} {M : wm_M} (w h rn s yr : Nat) (ci : CI M w h rn s yr) (k : Nat) (hk : k < w * h) : MD G t_X9_stoneTells [wm_r G (0), .int (nI (k)), .int (nI (1))] (M) (some (.int (nI (sQ s k)))) (M) := by
  obtain ⟨⟨hW, hwh⟩, hSt, ⟨h12, h13, hyr, hs4, hsh⟩, hRo, hTx, hLw, hKp, hRO, ⟨hL1, hL10, hL29, hL58⟩, hSe, hDy⟩ := id ci
  have hn6 := TW_n hW
  have hs : s < 4096 := Nat.lt_of_lt_of_le hs4 (p4_le hn6)
  have hw3 := hW.2.2.1
  have hh2 := hW.2.2.2
  refine wm_met (by decide) (Nat.le_of_ble_eq_true rfl) ?_
  show WA G t_X9_stoneTells (fun v_ N_ => v_ = some (.int (nI (sQ s k))) ∧ N_ = M) 0 [(0, wm_r G (0)), (1, .int (nI (k))), (2, .int (nI (1)))] [] (M)
  refine wa_iload_n dX9_stoneTells_0 rfl 2 rfl ?_
  have s_1_0 : ¬ ((nI (1))) = (0) := by decide
  by_cases s_1_1 : ((nI (1))) = (1)
  · rw [s_1_1]
    refine wa_lookup (off := 37) 38 dX9_stoneTells_1 (by decide) (by decide) (by decide) ?_
    refine wa_aload_n dX9_stoneTells_38 rfl 0 rfl ?_
    refine wa_geti gX9_stoneTells_39 (rfl) rfl ?_
    refine wa_eqi (y := (nI (s))) (h12) ?_
    refine wa_iload_n dX9_stoneTells_42 rfl 1 rfl ?_
    refine wa_cSi (m_quarters s k (by omega) (by omega)) vX4_quarters iX9_stoneTells_43 rfl rfl (Nat.le_of_ble_eq_true rfl) ⟨by decide, by decide⟩ ?_
    exact wa_iret dX9_stoneTells_46 rfl ⟨congrArg (fun z => some (Value.int z)) (rfl), rfl⟩
  exact absurd (by decide) s_1_1

theorem m_stTl2 {G : wm_G} {M : wm_M} (w h rn s yr : Nat) (ci : CI M w h rn s yr) (k : Nat) (hk : k < w * h) (what : Nat) (h2 : 2 ≤ what) (h5 : what < 6) : MD G t_X9_stoneTells [wm_r G (0), .int (nI (k)), .int (nI (what))] (M) (some (.int (M.1 19 (4 * k + what - 2)))) (M) := by
  obtain ⟨⟨hW, hwh⟩, hSt, ⟨h12, h13, hyr, hs4, hsh⟩, hRo, hTx, hLw, hKp, hRO, ⟨hL1, hL10, hL29, hL58⟩, hSe, hDy⟩ := id ci
  have hn6 := TW_n hW
  have hs : s < 4096 := Nat.lt_of_lt_of_le hs4 (p4_le hn6)
  have hw3 := hW.2.2.1
  have hh2 := hW.2.2.2
  refine wm_met (by decide) (Nat.le_of_ble_eq_true rfl) ?_
  show WA G t_X9_stoneTells (fun v_ N_ => v_ = some (.int (M.1 19 (4 * k + what - 2))) ∧ N_ = M) 0 [(0, wm_r G (0)), (1, .int (nI (k))), (2, .int (nI (what)))] [] (M)
  refine wa_iload_n dX9_stoneTells_0 rfl 2 rfl ?_
  have s_1_0 : ¬ ((nI (what))) = (0) := by intro e; first | exact absurd ((nI_eq (b := 0) (by omega) (by omega)).mp e) (by omega) | exact absurd ((nI_eq (b := 1) (by omega) (by omega)).mp e) (by omega)
  have s_1_1 : ¬ ((nI (what))) = (1) := by intro e; first | exact absurd ((nI_eq (b := 0) (by omega) (by omega)).mp e) (by omega) | exact absurd ((nI_eq (b := 1) (by omega) (by omega)).mp e) (by omega)
  refine wa_lookup (off := 46) 47 dX9_stoneTells_1 (by decide) (by show Op.lookupswitch.offset [((0 : Int), (27 : Int)), ((1 : Int), (37 : Int))] 46 ((nI (what))).toInt = 46; rw [lv_osw (a := 0) s_1_0 (by decide), lv_osw (a := 1) s_1_1 (by decide)]; rfl) (by decide) ?_
  refine wa_aload_n dX9_stoneTells_47 rfl 0 rfl ?_
  refine wa_getr gX9_stoneTells_48 (rfl) rfl ?_
  refine wa_getr gX9_stoneTells_51 (rfl) rfl ?_
  refine wa_iconst (4) dX9_stoneTells_54 (by decide) ?_
  refine wa_iload_n dX9_stoneTells_55 rfl 1 rfl ?_
  refine wa_imulN (a := 4) (b := k) dX9_stoneTells_56 ?_
  refine wa_iload_n dX9_stoneTells_57 rfl 2 rfl ?_
  refine wa_iaddN (a := 4 * k) (b := what) dX9_stoneTells_58 ?_
  refine wa_iconst (2) dX9_stoneTells_59 (by decide) ?_
  refine wa_isubN (a := 4 * k + what) (b := 2) dX9_stoneTells_60 (by omega) ?_
  refine wa_ialdN (e := (4 * k + what) - (2)) dX9_stoneTells_61 (rfl) (by omega) (by decide) ?_
  exact wa_iret dX9_stoneTells_62 rfl ⟨congrArg (fun z => some (Value.int z)) (rfl), rfl⟩

theorem m_stTl {G : wm_G} {M : wm_M} (w h rn s yr : Nat) (ci : CI M w h rn s yr) (k : Nat) (hk : k < w * h) (what : Nat) (h5 : what < 6) : MD G t_X9_stoneTells [wm_r G 0, .int (nI k), .int (nI what)] M (some (.int (stTl M s k what))) M := by
  unfold stTl
  by_cases h0 : what = 0
  · subst h0; rw [if_pos rfl]; exact m_stTl0 w h rn s yr ci k hk
  · rw [if_neg h0]
    by_cases h1 : what = 1
    · subst h1; rw [if_pos rfl]; exact m_stTl1 w h rn s yr ci k hk
    · rw [if_neg h1]; exact m_stTl2 w h rn s yr ci k hk what (by omega) h5

theorem c_stone_bad1 {G : wm_G} {M : wm_M} (w h rn s yr : Nat) (ci : CI M w h rn s yr) (k : Int32) (hk : wIn k (w * h) = false) (what : Int32) : MD G t_X9_stone [wm_r G (0), .int (k), .int (what)] (M) (some (.int (-1))) (M) := by
  obtain ⟨⟨hW, hwh⟩, hSt, ⟨h12, h13, hyr, hs4, hsh⟩, hRo, hTx, hLw, hKp, hRO, ⟨hL1, hL10, hL29, hL58⟩, hSe, hDy⟩ := id ci
  have hn6 := TW_n hW
  have hs : s < 4096 := Nat.lt_of_lt_of_le hs4 (p4_le hn6)
  have hw3 := hW.2.2.1
  have hh2 := hW.2.2.2
  refine wm_met (by decide) (Nat.le_of_ble_eq_true rfl) ?_
  show WA G t_X9_stone (fun v_ N_ => v_ = some (.int (-1)) ∧ N_ = M) 0 [(0, wm_r G (0)), (1, .int (k)), (2, .int (what))] [] (M)
  refine wa_aload_n dX9_stone_0 rfl 0 rfl ?_
  refine wa_getr gX9_stone_1 (rfl) rfl ?_
  refine wa_iload_n dX9_stone_4 rfl 1 rfl ?_
  refine wa_cVi (m_sknows w h hW k) vX4_knows iX9_stone_5 (rfl) rfl rfl rfl (Nat.le_of_ble_eq_true rfl) ⟨by decide, by decide⟩ ?_
  refine wa_eqi (y := (0)) (by rw [hk]; rfl) ?_
  refine wa_if_eq 20 dX9_stone_8 (by decide) (fun c_8 => ?_) (fun c_8 => absurd c_8 (by decide))
  refine wa_iconst (-1) dX9_stone_20 (by decide) ?_
  exact wa_iret dX9_stone_21 rfl ⟨congrArg (fun z => some (Value.int z)) (rfl), rfl⟩

theorem c_stone_bad2 {G : wm_G} {M : wm_M} (w h rn s yr : Nat) (ci : CI M w h rn s yr) (k : Nat) (hk : k < w * h) (what : Int32) (hw : wIn what 6 = false) : MD G t_X9_stone [wm_r G (0), .int (nI (k)), .int (what)] (M) (some (.int (-1))) (M) := by
  obtain ⟨⟨hW, hwh⟩, hSt, ⟨h12, h13, hyr, hs4, hsh⟩, hRo, hTx, hLw, hKp, hRO, ⟨hL1, hL10, hL29, hL58⟩, hSe, hDy⟩ := id ci
  have hn6 := TW_n hW
  have hs : s < 4096 := Nat.lt_of_lt_of_le hs4 (p4_le hn6)
  have hw3 := hW.2.2.1
  have hh2 := hW.2.2.2
  refine wm_met (by decide) (Nat.le_of_ble_eq_true rfl) ?_
  show WA G t_X9_stone (fun v_ N_ => v_ = some (.int (-1)) ∧ N_ = M) 0 [(0, wm_r G (0)), (1, .int (nI (k))), (2, .int (what))] [] (M)
  refine wa_aload_n dX9_stone_0 rfl 0 rfl ?_
  refine wa_getr gX9_stone_1 (rfl) rfl ?_
  refine wa_iload_n dX9_stone_4 rfl 1 rfl ?_
  refine wa_cVi (m_sknowsN w h hW k (by omega)) vX4_knows iX9_stone_5 (rfl) rfl rfl rfl (Nat.le_of_ble_eq_true rfl) ⟨by decide, by decide⟩ ?_
  refine wa_eqi (y := (1)) (by rw [decide_eq_true hk]; rfl) ?_
  refine wa_if_eq 20 dX9_stone_8 (by decide) (fun c_8 => absurd c_8 (by decide)) (fun c_8 => ?_)
  refine wa_iload_n dX9_stone_11 rfl 2 rfl ?_
  refine wa_if_lt 20 dX9_stone_12 (by decide) (fun c_12 => ?_) (fun c_12 => ?_)
  · refine wa_iconst (-1) dX9_stone_20 (by decide) ?_
    exact wa_iret dX9_stone_21 rfl ⟨congrArg (fun z => some (Value.int z)) (rfl), rfl⟩
  · refine wa_iload_n dX9_stone_15 rfl 2 rfl ?_
    refine wa_iconst (5) dX9_stone_16 (by decide) ?_
    refine wa_icmp_le 22 dX9_stone_17 (by decide) (fun c_17 => absurd (wIn_le (m := 5) (by decide) c_12 c_17) (by rw [hw]; decide)) (fun c_17 => ?_)
    refine wa_iconst (-1) dX9_stone_20 (by decide) ?_
    exact wa_iret dX9_stone_21 rfl ⟨congrArg (fun z => some (Value.int z)) (rfl), rfl⟩

theorem c_stone_ok {G : wm_G} {M : wm_M} (w h rn s yr : Nat) (ci : CI M w h rn s yr) (k : Nat) (hk : k < w * h) (what : Nat) (hw : what < 6) : MD G t_X9_stone [wm_r G (0), .int (nI (k)), .int (nI (what))] (M) (some (.int (1))) (tTell M (stTl M s k what)) := by
  obtain ⟨⟨hW, hwh⟩, hSt, ⟨h12, h13, hyr, hs4, hsh⟩, hRo, hTx, hLw, hKp, hRO, ⟨hL1, hL10, hL29, hL58⟩, hSe, hDy⟩ := id ci
  have hn6 := TW_n hW
  have hs : s < 4096 := Nat.lt_of_lt_of_le hs4 (p4_le hn6)
  have hw3 := hW.2.2.1
  have hh2 := hW.2.2.2
  refine wm_met (by decide) (Nat.le_of_ble_eq_true rfl) ?_
  show WA G t_X9_stone (fun v_ N_ => v_ = some (.int (1)) ∧ N_ = tTell M (stTl M s k what)) 0 [(0, wm_r G (0)), (1, .int (nI (k))), (2, .int (nI (what)))] [] (M)
  refine wa_aload_n dX9_stone_0 rfl 0 rfl ?_
  refine wa_getr gX9_stone_1 (rfl) rfl ?_
  refine wa_iload_n dX9_stone_4 rfl 1 rfl ?_
  refine wa_cVi (m_sknowsN w h hW k (by omega)) vX4_knows iX9_stone_5 (rfl) rfl rfl rfl (Nat.le_of_ble_eq_true rfl) ⟨by decide, by decide⟩ ?_
  refine wa_eqi (y := (1)) (by rw [decide_eq_true hk]; rfl) ?_
  refine wa_if_eq 20 dX9_stone_8 (by decide) (fun c_8 => absurd c_8 (by decide)) (fun c_8 => ?_)
  refine wa_iload_n dX9_stone_11 rfl 2 rfl ?_
  refine wa_if_ltN (a := what) 20 dX9_stone_12 (by decide) (by omega) (fun c_12 => absurd c_12 (by omega)) (fun c_12 => ?_)
  refine wa_iload_n dX9_stone_15 rfl 2 rfl ?_
  refine wa_iconst (5) dX9_stone_16 (by decide) ?_
  refine wa_icmp_leN (a := what) (b := 5) 22 dX9_stone_17 (by decide) (by omega) (by omega) (fun c_17 => ?_) (fun c_17 => absurd c_17 (by omega))
  refine wa_aload_n dX9_stone_22 rfl 0 rfl ?_
  refine wa_getr gX9_stone_23 (rfl) rfl ?_
  refine wa_aload_n dX9_stone_26 rfl 0 rfl ?_
  refine wa_iload_n dX9_stone_27 rfl 1 rfl ?_
  refine wa_iload_n dX9_stone_28 rfl 2 rfl ?_
  refine wa_cVi (m_stTl w h rn s yr ci k hk what hw) vX9_stoneTells iX9_stone_29 (rfl) rfl rfl rfl (Nat.le_of_ble_eq_true rfl) ⟨by decide, by decide⟩ ?_
  refine wa_puti gX9_stone_32 (rfl) rfl ?_
  refine wa_iconst (1) dX9_stone_35 (by decide) ?_
  exact wa_iret dX9_stone_36 rfl ⟨congrArg (fun z => some (Value.int z)) (rfl), rfl⟩

theorem c_mark_bad1 {G : wm_G} {M : wm_M} (w h rn s yr : Nat) (ci : CI M w h rn s yr) (k : Int32) (hk : wIn k (w * h) = false) (kd : Int32) : MD G t_X9_mark [wm_r G (0), .int (k), .int (kd)] (M) (some (.int (-1))) (M) := by
  obtain ⟨⟨hW, hwh⟩, hSt, ⟨h12, h13, hyr, hs4, hsh⟩, hRo, hTx, hLw, hKp, hRO, ⟨hL1, hL10, hL29, hL58⟩, hSe, hDy⟩ := id ci
  have hn6 := TW_n hW
  have hs : s < 4096 := Nat.lt_of_lt_of_le hs4 (p4_le hn6)
  have hw3 := hW.2.2.1
  have hh2 := hW.2.2.2
  refine wm_met (by decide) (Nat.le_of_ble_eq_true rfl) ?_
  show WA G t_X9_mark (fun v_ N_ => v_ = some (.int (-1)) ∧ N_ = M) 0 [(0, wm_r G (0)), (1, .int (k)), (2, .int (kd))] [] (M)
  refine wa_aload_n dX9_mark_0 rfl 0 rfl ?_
  refine wa_getr gX9_mark_1 (rfl) rfl ?_
  refine wa_iload_n dX9_mark_4 rfl 1 rfl ?_
  refine wa_cVi (m_sknows w h hW k) vX4_knows iX9_mark_5 (rfl) rfl rfl rfl (Nat.le_of_ble_eq_true rfl) ⟨by decide, by decide⟩ ?_
  refine wa_eqi (y := (0)) (by rw [hk]; rfl) ?_
  refine wa_if_eq 21 dX9_mark_8 (by decide) (fun c_8 => ?_) (fun c_8 => absurd c_8 (by decide))
  refine wa_iconst (-1) dX9_mark_21 (by decide) ?_
  exact wa_iret dX9_mark_22 rfl ⟨congrArg (fun z => some (Value.int z)) (rfl), rfl⟩

theorem c_mark_bad2 {G : wm_G} {M : wm_M} (w h rn s yr : Nat) (ci : CI M w h rn s yr) (k : Nat) (hk : k < w * h) (kd : Int32) (hw : kd < 1 ∨ ¬ kd ≤ 5) : MD G t_X9_mark [wm_r G (0), .int (nI (k)), .int (kd)] (M) (some (.int (-1))) (M) := by
  obtain ⟨⟨hW, hwh⟩, hSt, ⟨h12, h13, hyr, hs4, hsh⟩, hRo, hTx, hLw, hKp, hRO, ⟨hL1, hL10, hL29, hL58⟩, hSe, hDy⟩ := id ci
  have hn6 := TW_n hW
  have hs : s < 4096 := Nat.lt_of_lt_of_le hs4 (p4_le hn6)
  have hw3 := hW.2.2.1
  have hh2 := hW.2.2.2
  refine wm_met (by decide) (Nat.le_of_ble_eq_true rfl) ?_
  show WA G t_X9_mark (fun v_ N_ => v_ = some (.int (-1)) ∧ N_ = M) 0 [(0, wm_r G (0)), (1, .int (nI (k))), (2, .int (kd))] [] (M)
  refine wa_aload_n dX9_mark_0 rfl 0 rfl ?_
  refine wa_getr gX9_mark_1 (rfl) rfl ?_
  refine wa_iload_n dX9_mark_4 rfl 1 rfl ?_
  refine wa_cVi (m_sknowsN w h hW k (by omega)) vX4_knows iX9_mark_5 (rfl) rfl rfl rfl (Nat.le_of_ble_eq_true rfl) ⟨by decide, by decide⟩ ?_
  refine wa_eqi (y := (1)) (by rw [decide_eq_true hk]; rfl) ?_
  refine wa_if_eq 21 dX9_mark_8 (by decide) (fun c_8 => absurd c_8 (by decide)) (fun c_8 => ?_)
  refine wa_iload_n dX9_mark_11 rfl 2 rfl ?_
  refine wa_iconst (1) dX9_mark_12 (by decide) ?_
  refine wa_icmp_lt 21 dX9_mark_13 (by decide) (fun c_13 => ?_) (fun c_13 => ?_)
  · refine wa_iconst (-1) dX9_mark_21 (by decide) ?_
    exact wa_iret dX9_mark_22 rfl ⟨congrArg (fun z => some (Value.int z)) (rfl), rfl⟩
  · refine wa_iload_n dX9_mark_16 rfl 2 rfl ?_
    refine wa_iconst (5) dX9_mark_17 (by decide) ?_
    refine wa_icmp_le 23 dX9_mark_18 (by decide) (fun c_18 => absurd hw (fun q => q.elim c_13 (fun q => q c_18))) (fun c_18 => ?_)
    refine wa_iconst (-1) dX9_mark_21 (by decide) ?_
    exact wa_iret dX9_mark_22 rfl ⟨congrArg (fun z => some (Value.int z)) (rfl), rfl⟩

theorem c_mark_un {G : wm_G} {M : wm_M} (w h rn s yr : Nat) (ci : CI M w h rn s yr) (k : Nat) (hk : k < w * h) (kd : Nat) (h1 : 1 ≤ kd) (h5 : kd ≤ 5) (hof : isOfB (M.1 18 k) (nI kd) = false) : MD G t_X9_mark [wm_r G (0), .int (nI (k)), .int (nI (kd))] (M) (some (.int (-3))) (tNote M 3) := by
  obtain ⟨⟨hW, hwh⟩, hSt, ⟨h12, h13, hyr, hs4, hsh⟩, hRo, hTx, hLw, hKp, hRO, ⟨hL1, hL10, hL29, hL58⟩, hSe, hDy⟩ := id ci
  have hn6 := TW_n hW
  have hs : s < 4096 := Nat.lt_of_lt_of_le hs4 (p4_le hn6)
  have hw3 := hW.2.2.1
  have hh2 := hW.2.2.2
  refine wm_met (by decide) (Nat.le_of_ble_eq_true rfl) ?_
  show WA G t_X9_mark (fun v_ N_ => v_ = some (.int (-3)) ∧ N_ = tNote M 3) 0 [(0, wm_r G (0)), (1, .int (nI (k))), (2, .int (nI (kd)))] [] (M)
  refine wa_aload_n dX9_mark_0 rfl 0 rfl ?_
  refine wa_getr gX9_mark_1 (rfl) rfl ?_
  refine wa_iload_n dX9_mark_4 rfl 1 rfl ?_
  refine wa_cVi (m_sknowsN w h hW k (by omega)) vX4_knows iX9_mark_5 (rfl) rfl rfl rfl (Nat.le_of_ble_eq_true rfl) ⟨by decide, by decide⟩ ?_
  refine wa_eqi (y := (1)) (by rw [decide_eq_true hk]; rfl) ?_
  refine wa_if_eq 21 dX9_mark_8 (by decide) (fun c_8 => absurd c_8 (by decide)) (fun c_8 => ?_)
  refine wa_iload_n dX9_mark_11 rfl 2 rfl ?_
  refine wa_iconst (1) dX9_mark_12 (by decide) ?_
  refine wa_icmp_ltN (a := kd) (b := 1) 21 dX9_mark_13 (by decide) (by omega) (by omega) (fun c_13 => absurd c_13 (by first | omega | decide)) (fun c_13 => ?_)
  refine wa_iload_n dX9_mark_16 rfl 2 rfl ?_
  refine wa_iconst (5) dX9_mark_17 (by decide) ?_
  refine wa_icmp_leN (a := kd) (b := 5) 23 dX9_mark_18 (by decide) (by omega) (by omega) (fun c_18 => ?_) (fun c_18 => absurd c_18 (by first | omega | decide))
  refine wa_aload_n dX9_mark_23 rfl 0 rfl ?_
  refine wa_getr gX9_mark_24 (rfl) rfl ?_
  refine wa_iload_n dX9_mark_27 rfl 1 rfl ?_
  refine wa_iload_n dX9_mark_28 rfl 2 rfl ?_
  refine wa_cVi (m_isOf 17 SO_17 k (nI kd) (by omega)) vX4_isOf iX9_mark_29 (rfl) rfl rfl rfl (Nat.le_of_ble_eq_true rfl) ⟨by decide, by decide⟩ ?_
  refine wa_eqi (y := (0)) (by rw [hof]; rfl) ?_
  refine wa_if_ne 41 dX9_mark_32 (by decide) (fun c_32 => absurd c_32 (by decide)) (fun c_32 => ?_)
  refine wa_aload_n dX9_mark_35 rfl 0 rfl ?_
  refine wa_iconst (3) dX9_mark_36 (by decide) ?_
  refine wa_cVi (m_find 3 (by decide) (by decide)) vX9_find iX9_mark_37 (rfl) rfl rfl rfl (Nat.le_of_ble_eq_true rfl) ⟨by decide, by decide⟩ ?_
  exact wa_iret dX9_mark_40 rfl ⟨congrArg (fun z => some (Value.int z)) (rfl), rfl⟩

theorem c_mark_1 {G : wm_G} {M : wm_M} (w h rn s yr : Nat) (ci : CI M w h rn s yr) (k : Nat) (hk : k < w * h) (hof : isOfB (M.1 18 k) 1 = true) : MD G t_X9_mark [wm_r G (0), .int (nI (k)), .int (nI (1))] (M) (some (.int (M.1 20 k))) (M) := by
  obtain ⟨⟨hW, hwh⟩, hSt, ⟨h12, h13, hyr, hs4, hsh⟩, hRo, hTx, hLw, hKp, hRO, ⟨hL1, hL10, hL29, hL58⟩, hSe, hDy⟩ := id ci
  have hn6 := TW_n hW
  have hs : s < 4096 := Nat.lt_of_lt_of_le hs4 (p4_le hn6)
  have hw3 := hW.2.2.1
  have hh2 := hW.2.2.2
  refine wm_met (by decide) (Nat.le_of_ble_eq_true rfl) ?_
  show WA G t_X9_mark (fun v_ N_ => v_ = some (.int (M.1 20 k)) ∧ N_ = M) 0 [(0, wm_r G (0)), (1, .int (nI (k))), (2, .int (nI (1)))] [] (M)
  refine wa_aload_n dX9_mark_0 rfl 0 rfl ?_
  refine wa_getr gX9_mark_1 (rfl) rfl ?_
  refine wa_iload_n dX9_mark_4 rfl 1 rfl ?_
  refine wa_cVi (m_sknowsN w h hW k (by omega)) vX4_knows iX9_mark_5 (rfl) rfl rfl rfl (Nat.le_of_ble_eq_true rfl) ⟨by decide, by decide⟩ ?_
  refine wa_eqi (y := (1)) (by rw [decide_eq_true hk]; rfl) ?_
  refine wa_if_eq 21 dX9_mark_8 (by decide) (fun c_8 => absurd c_8 (by decide)) (fun c_8 => ?_)
  refine wa_iload_n dX9_mark_11 rfl 2 rfl ?_
  refine wa_iconst (1) dX9_mark_12 (by decide) ?_
  refine wa_icmp_ltN (a := 1) (b := 1) 21 dX9_mark_13 (by decide) (by omega) (by omega) (fun c_13 => absurd c_13 (by decide)) (fun c_13 => ?_)
  refine wa_iload_n dX9_mark_16 rfl 2 rfl ?_
  refine wa_iconst (5) dX9_mark_17 (by decide) ?_
  refine wa_icmp_leN (a := 1) (b := 5) 23 dX9_mark_18 (by decide) (by omega) (by omega) (fun c_18 => ?_) (fun c_18 => absurd c_18 (by decide))
  refine wa_aload_n dX9_mark_23 rfl 0 rfl ?_
  refine wa_getr gX9_mark_24 (rfl) rfl ?_
  refine wa_iload_n dX9_mark_27 rfl 1 rfl ?_
  refine wa_iload_n dX9_mark_28 rfl 2 rfl ?_
  refine wa_cVi (m_isOf 17 SO_17 k 1 (by omega)) vX4_isOf iX9_mark_29 (rfl) rfl rfl rfl (Nat.le_of_ble_eq_true rfl) ⟨by decide, by decide⟩ ?_
  refine wa_eqi (y := (1)) (by first | (rw [hof]; rfl) | (rw [show nI 1 = (1 : Int32) from rfl, hof]; rfl)) ?_
  refine wa_if_ne 41 dX9_mark_32 (by decide) (fun c_32 => ?_) (fun c_32 => absurd c_32 (by decide))
  refine wa_iload_n dX9_mark_41 rfl 2 rfl ?_
  by_cases s_42_1 : ((nI (1))) = (1)
  · rw [s_42_1]
    refine wa_tableIn 72 dX9_mark_42 (by decide) (by decide) rfl (by decide) ?_
    refine wa_aload_n dX9_mark_72 rfl 0 rfl ?_
    refine wa_getr gX9_mark_73 (rfl) rfl ?_
    refine wa_getr gX9_mark_76 (rfl) rfl ?_
    refine wa_iload_n dX9_mark_79 rfl 1 rfl ?_
    refine wa_ialdN (e := k) dX9_mark_80 (rfl) (by omega) (by decide) ?_
    exact wa_iret dX9_mark_81 rfl ⟨congrArg (fun z => some (Value.int z)) (rfl), rfl⟩
  have s_42_2 : ¬ ((nI (1))) = (2) := by decide
  have s_42_3 : ¬ ((nI (1))) = (3) := by decide
  have s_42_4 : ¬ ((nI (1))) = (4) := by decide
  exact absurd (by decide) s_42_1

theorem c_mark_2 {G : wm_G} {M : wm_M} (w h rn s yr : Nat) (ci : CI M w h rn s yr) (k : Nat) (hk : k < w * h) (hof : isOfB (M.1 18 k) 2 = true) : MD G t_X9_mark [wm_r G (0), .int (nI (k)), .int (nI (2))] (M) (some (.int (nI ((if 1 < w then 1 else 0) + (if 1 < h then 1 else 0))))) (M) := by
  obtain ⟨⟨hW, hwh⟩, hSt, ⟨h12, h13, hyr, hs4, hsh⟩, hRo, hTx, hLw, hKp, hRO, ⟨hL1, hL10, hL29, hL58⟩, hSe, hDy⟩ := id ci
  have hn6 := TW_n hW
  have hs : s < 4096 := Nat.lt_of_lt_of_le hs4 (p4_le hn6)
  have hw3 := hW.2.2.1
  have hh2 := hW.2.2.2
  refine wm_met (by decide) (Nat.le_of_ble_eq_true rfl) ?_
  show WA G t_X9_mark (fun v_ N_ => v_ = some (.int (nI ((if 1 < w then 1 else 0) + (if 1 < h then 1 else 0)))) ∧ N_ = M) 0 [(0, wm_r G (0)), (1, .int (nI (k))), (2, .int (nI (2)))] [] (M)
  refine wa_aload_n dX9_mark_0 rfl 0 rfl ?_
  refine wa_getr gX9_mark_1 (rfl) rfl ?_
  refine wa_iload_n dX9_mark_4 rfl 1 rfl ?_
  refine wa_cVi (m_sknowsN w h hW k (by omega)) vX4_knows iX9_mark_5 (rfl) rfl rfl rfl (Nat.le_of_ble_eq_true rfl) ⟨by decide, by decide⟩ ?_
  refine wa_eqi (y := (1)) (by rw [decide_eq_true hk]; rfl) ?_
  refine wa_if_eq 21 dX9_mark_8 (by decide) (fun c_8 => absurd c_8 (by decide)) (fun c_8 => ?_)
  refine wa_iload_n dX9_mark_11 rfl 2 rfl ?_
  refine wa_iconst (1) dX9_mark_12 (by decide) ?_
  refine wa_icmp_ltN (a := 2) (b := 1) 21 dX9_mark_13 (by decide) (by omega) (by omega) (fun c_13 => absurd c_13 (by decide)) (fun c_13 => ?_)
  refine wa_iload_n dX9_mark_16 rfl 2 rfl ?_
  refine wa_iconst (5) dX9_mark_17 (by decide) ?_
  refine wa_icmp_leN (a := 2) (b := 5) 23 dX9_mark_18 (by decide) (by omega) (by omega) (fun c_18 => ?_) (fun c_18 => absurd c_18 (by decide))
  refine wa_aload_n dX9_mark_23 rfl 0 rfl ?_
  refine wa_getr gX9_mark_24 (rfl) rfl ?_
  refine wa_iload_n dX9_mark_27 rfl 1 rfl ?_
  refine wa_iload_n dX9_mark_28 rfl 2 rfl ?_
  refine wa_cVi (m_isOf 17 SO_17 k 2 (by omega)) vX4_isOf iX9_mark_29 (rfl) rfl rfl rfl (Nat.le_of_ble_eq_true rfl) ⟨by decide, by decide⟩ ?_
  refine wa_eqi (y := (1)) (by first | (rw [hof]; rfl) | (rw [show nI 2 = (2 : Int32) from rfl, hof]; rfl)) ?_
  refine wa_if_ne 41 dX9_mark_32 (by decide) (fun c_32 => ?_) (fun c_32 => absurd c_32 (by decide))
  refine wa_iload_n dX9_mark_41 rfl 2 rfl ?_
  have s_42_1 : ¬ ((nI (2))) = (1) := by decide
  by_cases s_42_2 : ((nI (2))) = (2)
  · rw [s_42_2]
    refine wa_tableIn 82 dX9_mark_42 (by decide) (by decide) rfl (by decide) ?_
    refine wa_aload_n dX9_mark_82 rfl 0 rfl ?_
    refine wa_getr gX9_mark_83 (rfl) rfl ?_
    refine wa_cVi (m_sharedStreets w h hW) vX4_sharedStreets iX9_mark_86 (rfl) rfl rfl rfl (Nat.le_of_ble_eq_true rfl) ⟨by decide, by decide⟩ ?_
    exact wa_iret dX9_mark_89 rfl ⟨congrArg (fun z => some (Value.int z)) (rfl), rfl⟩
  have s_42_3 : ¬ ((nI (2))) = (3) := by decide
  have s_42_4 : ¬ ((nI (2))) = (4) := by decide
  exact absurd (by decide) s_42_2

theorem c_mark_3 {G : wm_G} {M : wm_M} (w h rn s yr : Nat) (ci : CI M w h rn s yr) (k : Nat) (hk : k < w * h) (hof : isOfB (M.1 18 k) 3 = true) : MD G t_X9_mark [wm_r G (0), .int (nI (k)), .int (nI (3))] (M) (some (.int (nI (pcN (sSeen (fun side => decide (nI 5 >>> (nI side &&& 31) &&& 1 = 1) && !decide (M.1 19 (4 * k + side) = -1)) (fun side => (M.1 19 (4 * k + side)).toNatClampNeg) 4))))) (M) := by
  obtain ⟨⟨hW, hwh⟩, hSt, ⟨h12, h13, hyr, hs4, hsh⟩, hRo, hTx, hLw, hKp, hRO, ⟨hL1, hL10, hL29, hL58⟩, hSe, hDy⟩ := id ci
  have hn6 := TW_n hW
  have hs : s < 4096 := Nat.lt_of_lt_of_le hs4 (p4_le hn6)
  have hw3 := hW.2.2.1
  have hh2 := hW.2.2.2
  refine wm_met (by decide) (Nat.le_of_ble_eq_true rfl) ?_
  show WA G t_X9_mark (fun v_ N_ => v_ = some (.int (nI (pcN (sSeen (fun side => decide (nI 5 >>> (nI side &&& 31) &&& 1 = 1) && !decide (M.1 19 (4 * k + side) = -1)) (fun side => (M.1 19 (4 * k + side)).toNatClampNeg) 4)))) ∧ N_ = M) 0 [(0, wm_r G (0)), (1, .int (nI (k))), (2, .int (nI (3)))] [] (M)
  refine wa_aload_n dX9_mark_0 rfl 0 rfl ?_
  refine wa_getr gX9_mark_1 (rfl) rfl ?_
  refine wa_iload_n dX9_mark_4 rfl 1 rfl ?_
  refine wa_cVi (m_sknowsN w h hW k (by omega)) vX4_knows iX9_mark_5 (rfl) rfl rfl rfl (Nat.le_of_ble_eq_true rfl) ⟨by decide, by decide⟩ ?_
  refine wa_eqi (y := (1)) (by rw [decide_eq_true hk]; rfl) ?_
  refine wa_if_eq 21 dX9_mark_8 (by decide) (fun c_8 => absurd c_8 (by decide)) (fun c_8 => ?_)
  refine wa_iload_n dX9_mark_11 rfl 2 rfl ?_
  refine wa_iconst (1) dX9_mark_12 (by decide) ?_
  refine wa_icmp_ltN (a := 3) (b := 1) 21 dX9_mark_13 (by decide) (by omega) (by omega) (fun c_13 => absurd c_13 (by decide)) (fun c_13 => ?_)
  refine wa_iload_n dX9_mark_16 rfl 2 rfl ?_
  refine wa_iconst (5) dX9_mark_17 (by decide) ?_
  refine wa_icmp_leN (a := 3) (b := 5) 23 dX9_mark_18 (by decide) (by omega) (by omega) (fun c_18 => ?_) (fun c_18 => absurd c_18 (by decide))
  refine wa_aload_n dX9_mark_23 rfl 0 rfl ?_
  refine wa_getr gX9_mark_24 (rfl) rfl ?_
  refine wa_iload_n dX9_mark_27 rfl 1 rfl ?_
  refine wa_iload_n dX9_mark_28 rfl 2 rfl ?_
  refine wa_cVi (m_isOf 17 SO_17 k 3 (by omega)) vX4_isOf iX9_mark_29 (rfl) rfl rfl rfl (Nat.le_of_ble_eq_true rfl) ⟨by decide, by decide⟩ ?_
  refine wa_eqi (y := (1)) (by first | (rw [hof]; rfl) | (rw [show nI 3 = (3 : Int32) from rfl, hof]; rfl)) ?_
  refine wa_if_ne 41 dX9_mark_32 (by decide) (fun c_32 => ?_) (fun c_32 => absurd c_32 (by decide))
  refine wa_iload_n dX9_mark_41 rfl 2 rfl ?_
  have s_42_1 : ¬ ((nI (3))) = (1) := by decide
  have s_42_2 : ¬ ((nI (3))) = (2) := by decide
  by_cases s_42_3 : ((nI (3))) = (3)
  · rw [s_42_3]
    refine wa_tableIn 90 dX9_mark_42 (by decide) (by decide) rfl (by decide) ?_
    refine wa_aload_n dX9_mark_90 rfl 0 rfl ?_
    refine wa_getr gX9_mark_91 (rfl) rfl ?_
    refine wa_iload_n dX9_mark_94 rfl 1 rfl ?_
    refine wa_iconst (5) dX9_mark_95 (by decide) ?_
    refine wa_cVi (m_unlikeW k 5 (by omega) (by decide) (fun i hi => cSt_w hSt hk hi)) vX4_unlikeWords iX9_mark_96 (rfl) rfl rfl rfl (Nat.le_of_ble_eq_true rfl) ⟨by decide, by decide⟩ ?_
    exact wa_iret dX9_mark_99 rfl ⟨congrArg (fun z => some (Value.int z)) (rfl), rfl⟩
  have s_42_4 : ¬ ((nI (3))) = (4) := by decide
  exact absurd (by decide) s_42_3

theorem c_mark_4 {G : wm_G} {M : wm_M} (w h rn s yr : Nat) (ci : CI M w h rn s yr) (k : Nat) (hk : k < w * h) (hof : isOfB (M.1 18 k) 4 = true) (sd : Nat) (hd4 : sd < 4) (hsd : M.1 20 k = nI sd) : MD G t_X9_mark [wm_r G (0), .int (nI (k)), .int (nI (4))] (M) (some (.int (nI (pcN (sSeen (fun side => decide (nI (15 - 2 ^ sd) >>> (nI side &&& 31) &&& 1 = 1) && !decide (M.1 19 (4 * k + side) = -1)) (fun side => (M.1 19 (4 * k + side)).toNatClampNeg) 4))))) (M) := by
  obtain ⟨⟨hW, hwh⟩, hSt, ⟨h12, h13, hyr, hs4, hsh⟩, hRo, hTx, hLw, hKp, hRO, ⟨hL1, hL10, hL29, hL58⟩, hSe, hDy⟩ := id ci
  have hn6 := TW_n hW
  have hs : s < 4096 := Nat.lt_of_lt_of_le hs4 (p4_le hn6)
  have hw3 := hW.2.2.1
  have hh2 := hW.2.2.2
  refine wm_met (by decide) (Nat.le_of_ble_eq_true rfl) ?_
  show WA G t_X9_mark (fun v_ N_ => v_ = some (.int (nI (pcN (sSeen (fun side => decide (nI (15 - 2 ^ sd) >>> (nI side &&& 31) &&& 1 = 1) && !decide (M.1 19 (4 * k + side) = -1)) (fun side => (M.1 19 (4 * k + side)).toNatClampNeg) 4)))) ∧ N_ = M) 0 [(0, wm_r G (0)), (1, .int (nI (k))), (2, .int (nI (4)))] [] (M)
  refine wa_aload_n dX9_mark_0 rfl 0 rfl ?_
  refine wa_getr gX9_mark_1 (rfl) rfl ?_
  refine wa_iload_n dX9_mark_4 rfl 1 rfl ?_
  refine wa_cVi (m_sknowsN w h hW k (by omega)) vX4_knows iX9_mark_5 (rfl) rfl rfl rfl (Nat.le_of_ble_eq_true rfl) ⟨by decide, by decide⟩ ?_
  refine wa_eqi (y := (1)) (by rw [decide_eq_true hk]; rfl) ?_
  refine wa_if_eq 21 dX9_mark_8 (by decide) (fun c_8 => absurd c_8 (by decide)) (fun c_8 => ?_)
  refine wa_iload_n dX9_mark_11 rfl 2 rfl ?_
  refine wa_iconst (1) dX9_mark_12 (by decide) ?_
  refine wa_icmp_ltN (a := 4) (b := 1) 21 dX9_mark_13 (by decide) (by omega) (by omega) (fun c_13 => absurd c_13 (by decide)) (fun c_13 => ?_)
  refine wa_iload_n dX9_mark_16 rfl 2 rfl ?_
  refine wa_iconst (5) dX9_mark_17 (by decide) ?_
  refine wa_icmp_leN (a := 4) (b := 5) 23 dX9_mark_18 (by decide) (by omega) (by omega) (fun c_18 => ?_) (fun c_18 => absurd c_18 (by decide))
  refine wa_aload_n dX9_mark_23 rfl 0 rfl ?_
  refine wa_getr gX9_mark_24 (rfl) rfl ?_
  refine wa_iload_n dX9_mark_27 rfl 1 rfl ?_
  refine wa_iload_n dX9_mark_28 rfl 2 rfl ?_
  refine wa_cVi (m_isOf 17 SO_17 k 4 (by omega)) vX4_isOf iX9_mark_29 (rfl) rfl rfl rfl (Nat.le_of_ble_eq_true rfl) ⟨by decide, by decide⟩ ?_
  refine wa_eqi (y := (1)) (by first | (rw [hof]; rfl) | (rw [show nI 4 = (4 : Int32) from rfl, hof]; rfl)) ?_
  refine wa_if_ne 41 dX9_mark_32 (by decide) (fun c_32 => ?_) (fun c_32 => absurd c_32 (by decide))
  refine wa_iload_n dX9_mark_41 rfl 2 rfl ?_
  have s_42_1 : ¬ ((nI (4))) = (1) := by decide
  have s_42_2 : ¬ ((nI (4))) = (2) := by decide
  have s_42_3 : ¬ ((nI (4))) = (3) := by decide
  by_cases s_42_4 : ((nI (4))) = (4)
  · rw [s_42_4]
    refine wa_tableIn 100 dX9_mark_42 (by decide) (by decide) rfl (by decide) ?_
    refine wa_aload_n dX9_mark_100 rfl 0 rfl ?_
    refine wa_getr gX9_mark_101 (rfl) rfl ?_
    refine wa_iload_n dX9_mark_104 rfl 1 rfl ?_
    refine wa_bipush (15) dX9_mark_105 (by decide) ?_
    refine wa_iconst (1) dX9_mark_107 (by decide) ?_
    refine wa_aload_n dX9_mark_108 rfl 0 rfl ?_
    refine wa_getr gX9_mark_109 (rfl) rfl ?_
    refine wa_getr gX9_mark_112 (rfl) rfl ?_
    refine wa_iload_n dX9_mark_115 rfl 1 rfl ?_
    refine wa_ialdN (e := k) dX9_mark_116 (rfl) (by omega) (by decide) ?_
    refine wa_eqi (y := (nI (sd))) (hsd) ?_
    refine wa_ishl dX9_mark_117 ?_
    refine wa_iconst (-1) dX9_mark_118 (by decide) ?_
    refine wa_ixor dX9_mark_119 ?_
    refine wa_iand dX9_mark_120 ?_
    refine wa_eqi (y := (nI (15 - 2 ^ sd))) (msk sd hd4) ?_
    refine wa_cVi (m_unlikeW k (15 - 2 ^ sd) (by omega) (Nat.lt_of_le_of_lt (Nat.sub_le _ _) (by decide)) (fun i hi => cSt_w hSt hk hi)) vX4_unlikeWords iX9_mark_121 (rfl) rfl rfl rfl (Nat.le_of_ble_eq_true rfl) ⟨by decide, by decide⟩ ?_
    exact wa_iret dX9_mark_124 rfl ⟨congrArg (fun z => some (Value.int z)) (rfl), rfl⟩
  exact absurd (by decide) s_42_4

theorem c_mark_5 {G : wm_G} {M : wm_M} (w h rn s yr : Nat) (ci : CI M w h rn s yr) (k : Nat) (hk : k < w * h) (hof : isOfB (M.1 18 k) 5 = true) : MD G t_X9_mark [wm_r G (0), .int (nI (k)), .int (nI (5))] (M) (some (.int (nI (k / w)))) (M) := by
  obtain ⟨⟨hW, hwh⟩, hSt, ⟨h12, h13, hyr, hs4, hsh⟩, hRo, hTx, hLw, hKp, hRO, ⟨hL1, hL10, hL29, hL58⟩, hSe, hDy⟩ := id ci
  have hn6 := TW_n hW
  have hs : s < 4096 := Nat.lt_of_lt_of_le hs4 (p4_le hn6)
  have hw3 := hW.2.2.1
  have hh2 := hW.2.2.2
  have hw0 : 0 < w := by rcases hwh with q | q; (rw [q.1, Nat.zero_mul] at hk; omega); exact q.1
  refine wm_met (by decide) (Nat.le_of_ble_eq_true rfl) ?_
  show WA G t_X9_mark (fun v_ N_ => v_ = some (.int (nI (k / w))) ∧ N_ = M) 0 [(0, wm_r G (0)), (1, .int (nI (k))), (2, .int (nI (5)))] [] (M)
  refine wa_aload_n dX9_mark_0 rfl 0 rfl ?_
  refine wa_getr gX9_mark_1 (rfl) rfl ?_
  refine wa_iload_n dX9_mark_4 rfl 1 rfl ?_
  refine wa_cVi (m_sknowsN w h hW k (by omega)) vX4_knows iX9_mark_5 (rfl) rfl rfl rfl (Nat.le_of_ble_eq_true rfl) ⟨by decide, by decide⟩ ?_
  refine wa_eqi (y := (1)) (by rw [decide_eq_true hk]; rfl) ?_
  refine wa_if_eq 21 dX9_mark_8 (by decide) (fun c_8 => absurd c_8 (by decide)) (fun c_8 => ?_)
  refine wa_iload_n dX9_mark_11 rfl 2 rfl ?_
  refine wa_iconst (1) dX9_mark_12 (by decide) ?_
  refine wa_icmp_ltN (a := 5) (b := 1) 21 dX9_mark_13 (by decide) (by omega) (by omega) (fun c_13 => absurd c_13 (by decide)) (fun c_13 => ?_)
  refine wa_iload_n dX9_mark_16 rfl 2 rfl ?_
  refine wa_iconst (5) dX9_mark_17 (by decide) ?_
  refine wa_icmp_leN (a := 5) (b := 5) 23 dX9_mark_18 (by decide) (by omega) (by omega) (fun c_18 => ?_) (fun c_18 => absurd c_18 (by decide))
  refine wa_aload_n dX9_mark_23 rfl 0 rfl ?_
  refine wa_getr gX9_mark_24 (rfl) rfl ?_
  refine wa_iload_n dX9_mark_27 rfl 1 rfl ?_
  refine wa_iload_n dX9_mark_28 rfl 2 rfl ?_
  refine wa_cVi (m_isOf 17 SO_17 k 5 (by omega)) vX4_isOf iX9_mark_29 (rfl) rfl rfl rfl (Nat.le_of_ble_eq_true rfl) ⟨by decide, by decide⟩ ?_
  refine wa_eqi (y := (1)) (by first | (rw [hof]; rfl) | (rw [show nI 5 = (5 : Int32) from rfl, hof]; rfl)) ?_
  refine wa_if_ne 41 dX9_mark_32 (by decide) (fun c_32 => ?_) (fun c_32 => absurd c_32 (by decide))
  refine wa_iload_n dX9_mark_41 rfl 2 rfl ?_
  have s_42_1 : ¬ ((nI (5))) = (1) := by decide
  have s_42_2 : ¬ ((nI (5))) = (2) := by decide
  have s_42_3 : ¬ ((nI (5))) = (3) := by decide
  have s_42_4 : ¬ ((nI (5))) = (4) := by decide
  refine wa_tableOut 125 dX9_mark_42 (by decide) (by decide) ?_
  refine wa_aload_n dX9_mark_125 rfl 0 rfl ?_
  refine wa_getr gX9_mark_126 (rfl) rfl ?_
  refine wa_iload_n dX9_mark_129 rfl 1 rfl ?_
  refine wa_cVi (m_rowOf w h hW k (by omega) hw0) vX4_rowOf iX9_mark_130 (rfl) rfl rfl rfl (Nat.le_of_ble_eq_true rfl) ⟨by decide, by decide⟩ ?_
  exact wa_iret dX9_mark_133 rfl ⟨congrArg (fun z => some (Value.int z)) (rfl), rfl⟩
