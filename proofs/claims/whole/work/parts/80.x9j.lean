theorem c_asked {G : wm_G} {M : wm_M} : MD G t_X9_asked [wm_r G (0)] (M) (some (.int (M.1 92 0))) (M) := by
  refine wm_met (by decide) (Nat.le_of_ble_eq_true rfl) ?_
  show WA G t_X9_asked (fun v_ N_ => v_ = some (.int (M.1 92 0)) ∧ N_ = M) 0 [(0, wm_r G (0))] [] (M)
  refine wa_aload_n dX9_asked_0 rfl 0 rfl ?_
  refine wa_getr gX9_asked_1 (rfl) rfl ?_
  refine wa_geti gX9_asked_4 (rfl) rfl ?_
  exact wa_iret dX9_asked_7 rfl ⟨congrArg (fun z => some (Value.int z)) (rfl), rfl⟩

theorem c_upper {G : wm_G} {M : wm_M} : MD G t_X9_upper [wm_r G (0)] (M) (some (.long (M.2.1 92 1))) (M) := by
  refine wm_met (by decide) (Nat.le_of_ble_eq_true rfl) ?_
  show WA G t_X9_upper (fun v_ N_ => v_ = some (.long (M.2.1 92 1)) ∧ N_ = M) 0 [(0, wm_r G (0))] [] (M)
  refine wa_aload_n dX9_upper_0 rfl 0 rfl ?_
  refine wa_getr gX9_upper_1 (rfl) rfl ?_
  refine wa_getl gX9_upper_4 (rfl) rfl ?_
  exact wa_lret dX9_upper_7 rfl ⟨congrArg (fun z => some (Value.long z)) (rfl), rfl⟩

theorem c_lower {G : wm_G} {M : wm_M} : MD G t_X9_lower [wm_r G (0)] (M) (some (.long (M.2.1 92 2))) (M) := by
  refine wm_met (by decide) (Nat.le_of_ble_eq_true rfl) ?_
  show WA G t_X9_lower (fun v_ N_ => v_ = some (.long (M.2.1 92 2)) ∧ N_ = M) 0 [(0, wm_r G (0))] [] (M)
  refine wa_aload_n dX9_lower_0 rfl 0 rfl ?_
  refine wa_getr gX9_lower_1 (rfl) rfl ?_
  refine wa_getl gX9_lower_4 (rfl) rfl ?_
  exact wa_lret dX9_lower_7 rfl ⟨congrArg (fun z => some (Value.long z)) (rfl), rfl⟩

theorem c_finding {G : wm_G} {M : wm_M} : MD G t_X9_finding [wm_r G (0)] (M) (some (.int (M.1 92 3))) (M) := by
  refine wm_met (by decide) (Nat.le_of_ble_eq_true rfl) ?_
  show WA G t_X9_finding (fun v_ N_ => v_ = some (.int (M.1 92 3)) ∧ N_ = M) 0 [(0, wm_r G (0))] [] (M)
  refine wa_aload_n dX9_finding_0 rfl 0 rfl ?_
  refine wa_getr gX9_finding_1 (rfl) rfl ?_
  refine wa_geti gX9_finding_4 (rfl) rfl ?_
  exact wa_iret dX9_finding_7 rfl ⟨congrArg (fun z => some (Value.int z)) (rfl), rfl⟩

theorem c_findings_bad {G : wm_G} {M : wm_M} (f : Int32) (hf : f < 1 ∨ ¬ f ≤ 5) : MD G t_X9_findings [wm_r G (0), .int (f)] (M) (some (.int (-1))) (M) := by
  refine wm_met (by decide) (Nat.le_of_ble_eq_true rfl) ?_
  show WA G t_X9_findings (fun v_ N_ => v_ = some (.int (-1)) ∧ N_ = M) 0 [(0, wm_r G (0)), (1, .int (f))] [] (M)
  refine wa_iload_n dX9_findings_0 rfl 1 rfl ?_
  refine wa_iconst (1) dX9_findings_1 (by decide) ?_
  refine wa_icmp_lt 10 dX9_findings_2 (by decide) (fun c_2 => ?_) (fun c_2 => ?_)
  · refine wa_iconst (-1) dX9_findings_10 (by decide) ?_
    refine wa_goto 23 dX9_findings_11 (by decide) ?_
    exact wa_iret dX9_findings_23 rfl ⟨congrArg (fun z => some (Value.int z)) (rfl), rfl⟩
  · refine wa_iload_n dX9_findings_5 rfl 1 rfl ?_
    refine wa_iconst (5) dX9_findings_6 (by decide) ?_
    refine wa_icmp_le 14 dX9_findings_7 (by decide) (fun c_7 => absurd hf (fun q => q.elim c_2 (fun q => q c_7))) (fun c_7 => ?_)
    refine wa_iconst (-1) dX9_findings_10 (by decide) ?_
    refine wa_goto 23 dX9_findings_11 (by decide) ?_
    exact wa_iret dX9_findings_23 rfl ⟨congrArg (fun z => some (Value.int z)) (rfl), rfl⟩

theorem c_findings_ok {G : wm_G} {M : wm_M} (f : Nat) (h1 : 1 ≤ f) (h5 : f ≤ 5) : MD G t_X9_findings [wm_r G (0), .int (nI (f))] (M) (some (.int (M.1 93 f))) (M) := by
  refine wm_met (by decide) (Nat.le_of_ble_eq_true rfl) ?_
  show WA G t_X9_findings (fun v_ N_ => v_ = some (.int (M.1 93 f)) ∧ N_ = M) 0 [(0, wm_r G (0)), (1, .int (nI (f)))] [] (M)
  refine wa_iload_n dX9_findings_0 rfl 1 rfl ?_
  refine wa_iconst (1) dX9_findings_1 (by decide) ?_
  refine wa_icmp_ltN (a := f) (b := 1) 10 dX9_findings_2 (by decide) (by omega) (by omega) (fun c_2 => absurd c_2 (by omega)) (fun c_2 => ?_)
  refine wa_iload_n dX9_findings_5 rfl 1 rfl ?_
  refine wa_iconst (5) dX9_findings_6 (by decide) ?_
  refine wa_icmp_leN (a := f) (b := 5) 14 dX9_findings_7 (by decide) (by omega) (by omega) (fun c_7 => ?_) (fun c_7 => absurd c_7 (by omega))
  refine wa_aload_n dX9_findings_14 rfl 0 rfl ?_
  refine wa_getr gX9_findings_15 (rfl) rfl ?_
  refine wa_getr gX9_findings_18 (rfl) rfl ?_
  refine wa_iload_n dX9_findings_21 rfl 1 rfl ?_
  refine wa_ialdN (e := f) dX9_findings_22 (rfl) (by omega) (by decide) ?_
  exact wa_iret dX9_findings_23 rfl ⟨congrArg (fun z => some (Value.int z)) (rfl), rfl⟩

theorem m_tal0 {G : wm_G} {M : wm_M} (w h rn s yr : Nat) (ci : CI M w h rn s yr) : MD G t_X9_tally [wm_r G (0), .int (nI (0))] (M) (some (.int (tal M w h rn 0))) (M) := by
  obtain ⟨⟨hW, hwh⟩, hSt, ⟨h12, h13, hyr, hs4, hsh⟩, hRo, hTx, hLw, hKp, hRO, ⟨hL1, hL10, hL29, hL58⟩, hSe, hDy⟩ := id ci
  have hn6 := TW_n hW
  have hs : s < 4096 := Nat.lt_of_lt_of_le hs4 (p4_le hn6)
  have hw3 := hW.2.2.1
  have hh2 := hW.2.2.2
  refine wm_met (by decide) (Nat.le_of_ble_eq_true rfl) ?_
  show WA G t_X9_tally (fun v_ N_ => v_ = some (.int (tal M w h rn 0)) ∧ N_ = M) 0 [(0, wm_r G (0)), (1, .int (nI (0)))] [] (M)
  refine wa_iload_n dX9_tally_0 rfl 1 rfl ?_
  by_cases s_1_0 : ((nI (0))) = (0)
  · rw [s_1_0]
    refine wa_tableIn 44 dX9_tally_1 (by decide) (by decide) rfl (by decide) ?_
    refine wa_aload_n dX9_tally_44 rfl 0 rfl ?_
    refine wa_getr gX9_tally_45 (rfl) rfl ?_
    refine wa_cVi (m_number 17 w h SO_17 hW.1 hW.2.1) vX4_number iX9_tally_48 (rfl) rfl rfl rfl (Nat.le_of_ble_eq_true rfl) ⟨by decide, by decide⟩ ?_
    exact wa_iret dX9_tally_51 rfl ⟨congrArg (fun z => some (Value.int z)) (rfl), rfl⟩
  have s_1_1 : ¬ ((nI (0))) = (1) := by decide
  have s_1_2 : ¬ ((nI (0))) = (2) := by decide
  have s_1_3 : ¬ ((nI (0))) = (3) := by decide
  have s_1_4 : ¬ ((nI (0))) = (4) := by decide
  have s_1_5 : ¬ ((nI (0))) = (5) := by decide
  have s_1_6 : ¬ ((nI (0))) = (6) := by decide
  exact absurd (by decide) s_1_0

theorem m_tal1 {G : wm_G} {M : wm_M} (w h rn s yr : Nat) (ci : CI M w h rn s yr) : MD G t_X9_tally [wm_r G (0), .int (nI (1))] (M) (some (.int (tal M w h rn 1))) (M) := by
  obtain ⟨⟨hW, hwh⟩, hSt, ⟨h12, h13, hyr, hs4, hsh⟩, hRo, hTx, hLw, hKp, hRO, ⟨hL1, hL10, hL29, hL58⟩, hSe, hDy⟩ := id ci
  have hn6 := TW_n hW
  have hs : s < 4096 := Nat.lt_of_lt_of_le hs4 (p4_le hn6)
  have hw3 := hW.2.2.1
  have hh2 := hW.2.2.2
  refine wm_met (by decide) (Nat.le_of_ble_eq_true rfl) ?_
  show WA G t_X9_tally (fun v_ N_ => v_ = some (.int (tal M w h rn 1)) ∧ N_ = M) 0 [(0, wm_r G (0)), (1, .int (nI (1)))] [] (M)
  refine wa_iload_n dX9_tally_0 rfl 1 rfl ?_
  have s_1_0 : ¬ ((nI (1))) = (0) := by decide
  by_cases s_1_1 : ((nI (1))) = (1)
  · rw [s_1_1]
    refine wa_tableIn 52 dX9_tally_1 (by decide) (by decide) rfl (by decide) ?_
    refine wa_aload_n dX9_tally_52 rfl 0 rfl ?_
    refine wa_getr gX9_tally_53 (rfl) rfl ?_
    refine wa_cVi (m_streets w h hW) vX4_streets iX9_tally_56 (rfl) rfl rfl rfl (Nat.le_of_ble_eq_true rfl) ⟨by decide, by decide⟩ ?_
    exact wa_iret dX9_tally_59 rfl ⟨congrArg (fun z => some (Value.int z)) (rfl), rfl⟩
  have s_1_2 : ¬ ((nI (1))) = (2) := by decide
  have s_1_3 : ¬ ((nI (1))) = (3) := by decide
  have s_1_4 : ¬ ((nI (1))) = (4) := by decide
  have s_1_5 : ¬ ((nI (1))) = (5) := by decide
  have s_1_6 : ¬ ((nI (1))) = (6) := by decide
  exact absurd (by decide) s_1_1

theorem m_tal2 {G : wm_G} {M : wm_M} (w h rn s yr : Nat) (ci : CI M w h rn s yr) : MD G t_X9_tally [wm_r G (0), .int (nI (2))] (M) (some (.int (tal M w h rn 2))) (M) := by
  obtain ⟨⟨hW, hwh⟩, hSt, ⟨h12, h13, hyr, hs4, hsh⟩, hRo, hTx, hLw, hKp, hRO, ⟨hL1, hL10, hL29, hL58⟩, hSe, hDy⟩ := id ci
  have hn6 := TW_n hW
  have hs : s < 4096 := Nat.lt_of_lt_of_le hs4 (p4_le hn6)
  have hw3 := hW.2.2.1
  have hh2 := hW.2.2.2
  refine wm_met (by decide) (Nat.le_of_ble_eq_true rfl) ?_
  show WA G t_X9_tally (fun v_ N_ => v_ = some (.int (tal M w h rn 2)) ∧ N_ = M) 0 [(0, wm_r G (0)), (1, .int (nI (2)))] [] (M)
  refine wa_iload_n dX9_tally_0 rfl 1 rfl ?_
  have s_1_0 : ¬ ((nI (2))) = (0) := by decide
  have s_1_1 : ¬ ((nI (2))) = (1) := by decide
  by_cases s_1_2 : ((nI (2))) = (2)
  · rw [s_1_2]
    refine wa_tableIn 60 dX9_tally_1 (by decide) (by decide) rfl (by decide) ?_
    refine wa_aload_n dX9_tally_60 rfl 0 rfl ?_
    refine wa_getr gX9_tally_61 (rfl) rfl ?_
    refine wa_getr gX9_tally_64 (rfl) rfl ?_
    refine wa_cVi (m_tnumber 29 4 3 TB_laws) vX5_number iX9_tally_67 (rfl) rfl rfl rfl (Nat.le_of_ble_eq_true rfl) ⟨by decide, by decide⟩ ?_
    exact wa_iret dX9_tally_70 rfl ⟨congrArg (fun z => some (Value.int z)) (rfl), rfl⟩
  have s_1_3 : ¬ ((nI (2))) = (3) := by decide
  have s_1_4 : ¬ ((nI (2))) = (4) := by decide
  have s_1_5 : ¬ ((nI (2))) = (5) := by decide
  have s_1_6 : ¬ ((nI (2))) = (6) := by decide
  exact absurd (by decide) s_1_2

theorem m_tal3 {G : wm_G} {M : wm_M} (w h rn s yr : Nat) (ci : CI M w h rn s yr) : MD G t_X9_tally [wm_r G (0), .int (nI (3))] (M) (some (.int (tal M w h rn 3))) (M) := by
  obtain ⟨⟨hW, hwh⟩, hSt, ⟨h12, h13, hyr, hs4, hsh⟩, hRo, hTx, hLw, hKp, hRO, ⟨hL1, hL10, hL29, hL58⟩, hSe, hDy⟩ := id ci
  have hn6 := TW_n hW
  have hs : s < 4096 := Nat.lt_of_lt_of_le hs4 (p4_le hn6)
  have hw3 := hW.2.2.1
  have hh2 := hW.2.2.2
  refine wm_met (by decide) (Nat.le_of_ble_eq_true rfl) ?_
  show WA G t_X9_tally (fun v_ N_ => v_ = some (.int (tal M w h rn 3)) ∧ N_ = M) 0 [(0, wm_r G (0)), (1, .int (nI (3)))] [] (M)
  refine wa_iload_n dX9_tally_0 rfl 1 rfl ?_
  have s_1_0 : ¬ ((nI (3))) = (0) := by decide
  have s_1_1 : ¬ ((nI (3))) = (1) := by decide
  have s_1_2 : ¬ ((nI (3))) = (2) := by decide
  by_cases s_1_3 : ((nI (3))) = (3)
  · rw [s_1_3]
    refine wa_tableIn 71 dX9_tally_1 (by decide) (by decide) rfl (by decide) ?_
    refine wa_aload_n dX9_tally_71 rfl 0 rfl ?_
    refine wa_getr gX9_tally_72 (rfl) rfl ?_
    refine wa_iconst (1) dX9_tally_75 (by decide) ?_
    refine wa_cVi (m_numberOf w h hW 1) vX4_numberOf iX9_tally_76 (rfl) rfl rfl rfl (Nat.le_of_ble_eq_true rfl) ⟨by decide, by decide⟩ ?_
    exact wa_iret dX9_tally_79 rfl ⟨congrArg (fun z => some (Value.int z)) (rfl), rfl⟩
  have s_1_4 : ¬ ((nI (3))) = (4) := by decide
  have s_1_5 : ¬ ((nI (3))) = (5) := by decide
  have s_1_6 : ¬ ((nI (3))) = (6) := by decide
  exact absurd (by decide) s_1_3

theorem m_tal4 {G : wm_G} {M : wm_M} (w h rn s yr : Nat) (ci : CI M w h rn s yr) : MD G t_X9_tally [wm_r G (0), .int (nI (4))] (M) (some (.int (tal M w h rn 4))) (M) := by
  obtain ⟨⟨hW, hwh⟩, hSt, ⟨h12, h13, hyr, hs4, hsh⟩, hRo, hTx, hLw, hKp, hRO, ⟨hL1, hL10, hL29, hL58⟩, hSe, hDy⟩ := id ci
  have hn6 := TW_n hW
  have hs : s < 4096 := Nat.lt_of_lt_of_le hs4 (p4_le hn6)
  have hw3 := hW.2.2.1
  have hh2 := hW.2.2.2
  refine wm_met (by decide) (Nat.le_of_ble_eq_true rfl) ?_
  show WA G t_X9_tally (fun v_ N_ => v_ = some (.int (tal M w h rn 4)) ∧ N_ = M) 0 [(0, wm_r G (0)), (1, .int (nI (4)))] [] (M)
  refine wa_iload_n dX9_tally_0 rfl 1 rfl ?_
  have s_1_0 : ¬ ((nI (4))) = (0) := by decide
  have s_1_1 : ¬ ((nI (4))) = (1) := by decide
  have s_1_2 : ¬ ((nI (4))) = (2) := by decide
  have s_1_3 : ¬ ((nI (4))) = (3) := by decide
  by_cases s_1_4 : ((nI (4))) = (4)
  · rw [s_1_4]
    refine wa_tableIn 80 dX9_tally_1 (by decide) (by decide) rfl (by decide) ?_
    refine wa_aload_n dX9_tally_80 rfl 0 rfl ?_
    refine wa_getr gX9_tally_81 (rfl) rfl ?_
    refine wa_iconst (2) dX9_tally_84 (by decide) ?_
    refine wa_cVi (m_numberOf w h hW 2) vX4_numberOf iX9_tally_85 (rfl) rfl rfl rfl (Nat.le_of_ble_eq_true rfl) ⟨by decide, by decide⟩ ?_
    exact wa_iret dX9_tally_88 rfl ⟨congrArg (fun z => some (Value.int z)) (rfl), rfl⟩
  have s_1_5 : ¬ ((nI (4))) = (5) := by decide
  have s_1_6 : ¬ ((nI (4))) = (6) := by decide
  exact absurd (by decide) s_1_4

theorem m_tal5 {G : wm_G} {M : wm_M} (w h rn s yr : Nat) (ci : CI M w h rn s yr) : MD G t_X9_tally [wm_r G (0), .int (nI (5))] (M) (some (.int (tal M w h rn 5))) (M) := by
  obtain ⟨⟨hW, hwh⟩, hSt, ⟨h12, h13, hyr, hs4, hsh⟩, hRo, hTx, hLw, hKp, hRO, ⟨hL1, hL10, hL29, hL58⟩, hSe, hDy⟩ := id ci
  have hn6 := TW_n hW
  have hs : s < 4096 := Nat.lt_of_lt_of_le hs4 (p4_le hn6)
  have hw3 := hW.2.2.1
  have hh2 := hW.2.2.2
  refine wm_met (by decide) (Nat.le_of_ble_eq_true rfl) ?_
  show WA G t_X9_tally (fun v_ N_ => v_ = some (.int (tal M w h rn 5)) ∧ N_ = M) 0 [(0, wm_r G (0)), (1, .int (nI (5)))] [] (M)
  refine wa_iload_n dX9_tally_0 rfl 1 rfl ?_
  have s_1_0 : ¬ ((nI (5))) = (0) := by decide
  have s_1_1 : ¬ ((nI (5))) = (1) := by decide
  have s_1_2 : ¬ ((nI (5))) = (2) := by decide
  have s_1_3 : ¬ ((nI (5))) = (3) := by decide
  have s_1_4 : ¬ ((nI (5))) = (4) := by decide
  by_cases s_1_5 : ((nI (5))) = (5)
  · rw [s_1_5]
    refine wa_tableIn 89 dX9_tally_1 (by decide) (by decide) rfl (by decide) ?_
    refine wa_aload_n dX9_tally_89 rfl 0 rfl ?_
    refine wa_getr gX9_tally_90 (rfl) rfl ?_
    refine wa_geti gX9_tally_93 (rfl) rfl ?_
    refine wa_eqi (y := (nI (rn))) (hRO.1) ?_
    exact wa_iret dX9_tally_96 rfl ⟨congrArg (fun z => some (Value.int z)) (rfl), rfl⟩
  have s_1_6 : ¬ ((nI (5))) = (6) := by decide
  exact absurd (by decide) s_1_5

theorem m_tal6 {G : wm_G} {M : wm_M} (w h rn s yr : Nat) (ci : CI M w h rn s yr) : MD G t_X9_tally [wm_r G (0), .int (nI (6))] (M) (some (.int (tal M w h rn 6))) (M) := by
  obtain ⟨⟨hW, hwh⟩, hSt, ⟨h12, h13, hyr, hs4, hsh⟩, hRo, hTx, hLw, hKp, hRO, ⟨hL1, hL10, hL29, hL58⟩, hSe, hDy⟩ := id ci
  have hn6 := TW_n hW
  have hs : s < 4096 := Nat.lt_of_lt_of_le hs4 (p4_le hn6)
  have hw3 := hW.2.2.1
  have hh2 := hW.2.2.2
  refine wm_met (by decide) (Nat.le_of_ble_eq_true rfl) ?_
  show WA G t_X9_tally (fun v_ N_ => v_ = some (.int (tal M w h rn 6)) ∧ N_ = M) 0 [(0, wm_r G (0)), (1, .int (nI (6)))] [] (M)
  refine wa_iload_n dX9_tally_0 rfl 1 rfl ?_
  have s_1_0 : ¬ ((nI (6))) = (0) := by decide
  have s_1_1 : ¬ ((nI (6))) = (1) := by decide
  have s_1_2 : ¬ ((nI (6))) = (2) := by decide
  have s_1_3 : ¬ ((nI (6))) = (3) := by decide
  have s_1_4 : ¬ ((nI (6))) = (4) := by decide
  have s_1_5 : ¬ ((nI (6))) = (5) := by decide
  by_cases s_1_6 : ((nI (6))) = (6)
  · rw [s_1_6]
    refine wa_tableIn 97 dX9_tally_1 (by decide) (by decide) rfl (by decide) ?_
    refine wa_aload_n dX9_tally_97 rfl 0 rfl ?_
    refine wa_getr gX9_tally_98 (rfl) rfl ?_
    refine wa_cVi (m_tnumber 1 6 60 TB_rows) vX5_number iX9_tally_101 (rfl) rfl rfl rfl (Nat.le_of_ble_eq_true rfl) ⟨by decide, by decide⟩ ?_
    exact wa_iret dX9_tally_104 rfl ⟨congrArg (fun z => some (Value.int z)) (rfl), rfl⟩
  exact absurd (by decide) s_1_6

theorem m_tal7 {G : wm_G} {M : wm_M} (w h rn s yr : Nat) (ci : CI M w h rn s yr) : MD G t_X9_tally [wm_r G (0), .int (nI (7))] (M) (some (.int (tal M w h rn 7))) (M) := by
  obtain ⟨⟨hW, hwh⟩, hSt, ⟨h12, h13, hyr, hs4, hsh⟩, hRo, hTx, hLw, hKp, hRO, ⟨hL1, hL10, hL29, hL58⟩, hSe, hDy⟩ := id ci
  have hn6 := TW_n hW
  have hs : s < 4096 := Nat.lt_of_lt_of_le hs4 (p4_le hn6)
  have hw3 := hW.2.2.1
  have hh2 := hW.2.2.2
  refine wm_met (by decide) (Nat.le_of_ble_eq_true rfl) ?_
  show WA G t_X9_tally (fun v_ N_ => v_ = some (.int (tal M w h rn 7)) ∧ N_ = M) 0 [(0, wm_r G (0)), (1, .int (nI (7)))] [] (M)
  refine wa_iload_n dX9_tally_0 rfl 1 rfl ?_
  have s_1_0 : ¬ ((nI (7))) = (0) := by decide
  have s_1_1 : ¬ ((nI (7))) = (1) := by decide
  have s_1_2 : ¬ ((nI (7))) = (2) := by decide
  have s_1_3 : ¬ ((nI (7))) = (3) := by decide
  have s_1_4 : ¬ ((nI (7))) = (4) := by decide
  have s_1_5 : ¬ ((nI (7))) = (5) := by decide
  have s_1_6 : ¬ ((nI (7))) = (6) := by decide
  refine wa_tableOut 105 dX9_tally_1 (by decide) (by decide) ?_
  refine wa_aload_n dX9_tally_105 rfl 0 rfl ?_
  refine wa_getr gX9_tally_106 (rfl) rfl ?_
  refine wa_cVi (m_tnumber 10 4 80 TB_texts) vX5_number iX9_tally_109 (rfl) rfl rfl rfl (Nat.le_of_ble_eq_true rfl) ⟨by decide, by decide⟩ ?_
  exact wa_iret dX9_tally_112 rfl ⟨congrArg (fun z => some (Value.int z)) (rfl), rfl⟩

theorem m_tally {G : wm_G} {M : wm_M} (w h rn s yr : Nat) (ci : CI M w h rn s yr) (what : Nat) (h8 : what < 8) : MD G t_X9_tally [wm_r G 0, .int (nI what)] M (some (.int (tal M w h rn what))) M := by
  have h9 : what = 0 ∨ what = 1 ∨ what = 2 ∨ what = 3 ∨ what = 4 ∨ what = 5 ∨ what = 6 ∨ what = 7 := by omega
  rcases h9 with rfl | rfl | rfl | rfl | rfl | rfl | rfl | rfl
  · exact m_tal0 w h rn s yr ci
  · exact m_tal1 w h rn s yr ci
  · exact m_tal2 w h rn s yr ci
  · exact m_tal3 w h rn s yr ci
  · exact m_tal4 w h rn s yr ci
  · exact m_tal5 w h rn s yr ci
  · exact m_tal6 w h rn s yr ci
  · exact m_tal7 w h rn s yr ci

theorem c_count_bad {G : wm_G} {M : wm_M} (what : Int32) (hw : wIn what 8 = false) : MD G t_X9_count [wm_r G (0), .int (what)] (M) (some (.int (-1))) (M) := by
  refine wm_met (by decide) (Nat.le_of_ble_eq_true rfl) ?_
  show WA G t_X9_count (fun v_ N_ => v_ = some (.int (-1)) ∧ N_ = M) 0 [(0, wm_r G (0)), (1, .int (what))] [] (M)
  refine wa_iload_n dX9_count_0 rfl 1 rfl ?_
  refine wa_if_lt 10 dX9_count_1 (by decide) (fun c_1 => ?_) (fun c_1 => ?_)
  · refine wa_iconst (-1) dX9_count_10 (by decide) ?_
    refine wa_goto 19 dX9_count_11 (by decide) ?_
    exact wa_iret dX9_count_19 rfl ⟨congrArg (fun z => some (Value.int z)) (rfl), rfl⟩
  · refine wa_iload_n dX9_count_4 rfl 1 rfl ?_
    refine wa_bipush (7) dX9_count_5 (by decide) ?_
    refine wa_icmp_le 14 dX9_count_7 (by decide) (fun c_7 => absurd (wIn_le (m := 7) (by decide) c_1 c_7) (by rw [hw]; decide)) (fun c_7 => ?_)
    refine wa_iconst (-1) dX9_count_10 (by decide) ?_
    refine wa_goto 19 dX9_count_11 (by decide) ?_
    exact wa_iret dX9_count_19 rfl ⟨congrArg (fun z => some (Value.int z)) (rfl), rfl⟩

theorem c_count_ok {G : wm_G} {M : wm_M} (w h rn s yr : Nat) (ci : CI M w h rn s yr) (what : Nat) (hw : what < 8) : MD G t_X9_count [wm_r G (0), .int (nI (what))] (M) (some (.int (tal M w h rn what))) (M) := by
  refine wm_met (by decide) (Nat.le_of_ble_eq_true rfl) ?_
  show WA G t_X9_count (fun v_ N_ => v_ = some (.int (tal M w h rn what)) ∧ N_ = M) 0 [(0, wm_r G (0)), (1, .int (nI (what)))] [] (M)
  refine wa_iload_n dX9_count_0 rfl 1 rfl ?_
  refine wa_if_ltN (a := what) 10 dX9_count_1 (by decide) (by omega) (fun c_1 => absurd c_1 (by omega)) (fun c_1 => ?_)
  refine wa_iload_n dX9_count_4 rfl 1 rfl ?_
  refine wa_bipush (7) dX9_count_5 (by decide) ?_
  refine wa_icmp_leN (a := what) (b := 7) 14 dX9_count_7 (by decide) (by omega) (by omega) (fun c_7 => ?_) (fun c_7 => absurd c_7 (by omega))
  refine wa_aload_n dX9_count_14 rfl 0 rfl ?_
  refine wa_iload_n dX9_count_15 rfl 1 rfl ?_
  refine wa_cVi (m_tally w h rn s yr ci what hw) vX9_tally iX9_count_16 (rfl) rfl rfl rfl (Nat.le_of_ble_eq_true rfl) ⟨by decide, by decide⟩ ?_
  exact wa_iret dX9_count_19 rfl ⟨congrArg (fun z => some (Value.int z)) (rfl), rfl⟩

theorem c_digest {G : wm_G} {M : wm_M} (w h rn s yr : Nat) (ci : CI M w h rn s yr) : MD G t_X9_digest [wm_r G (0)] (M) (some (.long (dgC M w h rn s yr))) (M) := by
  obtain ⟨⟨hW, hwh⟩, hSt, ⟨h12, h13, hyr, hs4, hsh⟩, hRo, hTx, hLw, hKp, hRO, ⟨hL1, hL10, hL29, hL58⟩, hSe, hDy⟩ := id ci
  have hn6 := TW_n hW
  have hs : s < 4096 := Nat.lt_of_lt_of_le hs4 (p4_le hn6)
  have hw3 := hW.2.2.1
  have hh2 := hW.2.2.2
  refine wm_met (by decide) (Nat.le_of_ble_eq_true rfl) ?_
  show WA G t_X9_digest (fun v_ N_ => v_ = some (.long (dgC M w h rn s yr)) ∧ N_ = M) 0 [(0, wm_r G (0))] [] (M)
  refine wa_ldc2 (17) dX9_digest_0 kX9_digest_0 ?_
  refine wa_eql (y := hFold 17 (fun i => (tal M w h rn i).toInt64) 0) (rfl) ?_
  refine wa_lstore_n [(1, .long (hFold 17 (fun i => (tal M w h rn i).toInt64) 0)), (0, wm_r G (0))] dX9_digest_3 rfl (by decide) rfl ?_
  refine wa_iconst (0) dX9_digest_4 (by decide) ?_
  refine wa_istore_n [(3, .int (0)), (1, .long (hFold 17 (fun i => (tal M w h rn i).toInt64) 0)), (0, wm_r G (0))] dX9_digest_5 rfl (by decide) rfl ?_
  have L_6 : ∀ (n_ : Nat) (i : Nat), (8 - i) < n_ → (i ≤ 8) → WA G t_X9_digest (fun v_ N_ => v_ = some (.long (dgC M w h rn s yr)) ∧ N_ = M) 6 [(3, .int (nI (i))), (1, .long (hFold 17 (fun i => (tal M w h rn i).toInt64) i)), (0, wm_r G (0))] [] (M) := by
    intro n_
    induction n_ with
    | zero => intro i h_; exact absurd h_ (Nat.not_lt_zero _)
    | succ n_ ih_6 =>
      intro i h_ hi
      refine wa_iload_n dX9_digest_6 rfl 0 rfl ?_
      refine wa_bipush (7) dX9_digest_7 (by decide) ?_
      refine wa_icmp_gtN (a := i) (b := 7) 31 dX9_digest_9 (by decide) (by omega) (by omega) (fun c_9 => ?_) (fun c_9 => ?_)
      · refine wa_ldc2 (31) dX9_digest_31 kX9_digest_31 ?_
        refine wa_lload_n dX9_digest_34 rfl 1 rfl ?_
        refine wa_lmul dX9_digest_35 ?_
        refine wa_aload_n dX9_digest_36 rfl 2 rfl ?_
        refine wa_geti gX9_digest_37 (rfl) rfl ?_
        refine wa_eqi (y := (nI (yr))) (h13) ?_
        refine wa_i2l dX9_digest_40 ?_
        refine wa_ladd dX9_digest_41 ?_
        refine wa_eql (y := dgS M w h rn s yr 0) (by rw [show i = 8 by omega]; rfl) ?_
        refine wa_lstore_n [(1, .long (dgS M w h rn s yr 0)), (3, .int (nI (i))), (0, wm_r G (0))] dX9_digest_42 rfl (by decide) rfl ?_
        refine wa_iconst (0) dX9_digest_43 (by decide) ?_
        refine wa_istore_n [(3, .int (0)), (1, .long (dgS M w h rn s yr 0)), (0, wm_r G (0))] dX9_digest_44 rfl (by decide) rfl ?_
        have L_45 : ∀ (n_ : Nat) (k : Nat), (w * h - k) < n_ → (k ≤ w * h) → WA G t_X9_digest (fun v_ N_ => v_ = some (.long (dgC M w h rn s yr)) ∧ N_ = M) 45 [(3, .int (nI (k))), (1, .long (dgS M w h rn s yr k)), (0, wm_r G (0))] [] (M) := by
          intro n_
          induction n_ with
          | zero => intro k h_; exact absurd h_ (Nat.not_lt_zero _)
          | succ n_ ih_45 =>
            intro k h_ hk
            refine wa_iload_n dX9_digest_45 rfl 0 rfl ?_
            refine wa_aload_n dX9_digest_46 rfl 2 rfl ?_
            refine wa_getr gX9_digest_47 (rfl) rfl ?_
            refine wa_cVi (m_number 17 w h SO_17 hW.1 hW.2.1) vX4_number iX9_digest_50 (rfl) rfl rfl rfl (Nat.le_of_ble_eq_true rfl) ⟨by decide, by decide⟩ ?_
            refine wa_icmp_geN (a := k) (b := w * h) 92 dX9_digest_53 (by decide) (by omega) (by omega) (fun c_53 => ?_) (fun c_53 => ?_)
            · refine wa_aload_n dX9_digest_92 rfl 2 rfl ?_
              refine wa_getr gX9_digest_93 (rfl) rfl ?_
              refine wa_getr gX9_digest_96 (rfl) rfl ?_
              refine wa_lload_n dX9_digest_99 rfl 1 rfl ?_
              refine wa_cVl (m_fold 29 4 3 TB_laws (dgS M w h rn s yr k) (law_sz hLw)) vX5_fold iX9_digest_100 (rfl) rfl rfl rfl (Nat.le_of_ble_eq_true rfl) ⟨by decide, by decide⟩ ?_
              refine wa_eql (y := tFold (dgS M w h rn s yr (w * h)) (M.1 35) (fun r => M.1 (31 + r)) 4) (by rw [show k = w * h by omega]) ?_
              refine wa_lstore_n [(1, .long (tFold (dgS M w h rn s yr (w * h)) (M.1 35) (fun r => M.1 (31 + r)) 4)), (3, .int (nI (k))), (0, wm_r G (0))] dX9_digest_103 rfl (by decide) rfl ?_
              refine wa_aload_n dX9_digest_104 rfl 2 rfl ?_
              refine wa_getr gX9_digest_105 (rfl) rfl ?_
              refine wa_lload_n dX9_digest_108 rfl 0 rfl ?_
              refine wa_cVl (m_rfold rn (tFold (dgS M w h rn s yr (w * h)) (M.1 35) (fun r => M.1 (31 + r)) 4) hRO.1 hRO.2.1 (rec_sz hRO hw3 hh2)) vX2_fold iX9_digest_109 (rfl) rfl rfl rfl (Nat.le_of_ble_eq_true rfl) ⟨by decide, by decide⟩ ?_
              refine wa_eql (y := dgK M (eFold M (tFold (dgS M w h rn s yr (w * h)) (M.1 35) (fun r => M.1 (31 + r)) 4) rn) 0) (rfl) ?_
              refine wa_lstore_n [(1, .long (dgK M (eFold M (tFold (dgS M w h rn s yr (w * h)) (M.1 35) (fun r => M.1 (31 + r)) 4) rn) 0)), (3, .int (nI (k))), (0, wm_r G (0))] dX9_digest_112 rfl (by decide) rfl ?_
              refine wa_iconst (0) dX9_digest_113 (by decide) ?_
              refine wa_istore_n [(3, .int (0)), (1, .long (dgK M (eFold M (tFold (dgS M w h rn s yr (w * h)) (M.1 35) (fun r => M.1 (31 + r)) 4) rn) 0)), (0, wm_r G (0))] dX9_digest_114 rfl (by decide) rfl ?_
              have L_115 : ∀ (n_ : Nat) (q : Nat), (3 - q) < n_ → (q ≤ 3) → WA G t_X9_digest (fun v_ N_ => v_ = some (.long (dgC M w h rn s yr)) ∧ N_ = M) 115 [(3, .int (nI (q))), (1, .long (dgK M (eFold M (tFold (dgS M w h rn s yr (w * h)) (M.1 35) (fun r => M.1 (31 + r)) 4) rn) q)), (0, wm_r G (0))] [] (M) := by
                intro n_
                induction n_ with
                | zero => intro q h_; exact absurd h_ (Nat.not_lt_zero _)
                | succ n_ ih_115 =>
                  intro q h_ hq
                  refine wa_iload_n dX9_digest_115 rfl 0 rfl ?_
                  refine wa_iconst (3) dX9_digest_116 (by decide) ?_
                  refine wa_icmp_geN (a := q) (b := 3) 164 dX9_digest_117 (by decide) (by omega) (by omega) (fun c_117 => ?_) (fun c_117 => ?_)
                  · refine wa_aload_n dX9_digest_164 rfl 2 rfl ?_
                    refine wa_getr gX9_digest_165 (rfl) rfl ?_
                    refine wa_lload_n dX9_digest_168 rfl 1 rfl ?_
                    refine wa_cVl (m_fold 1 6 60 TB_rows (dgK M (eFold M (tFold (dgS M w h rn s yr (w * h)) (M.1 35) (fun r => M.1 (31 + r)) 4) rn) q) (row_sz hRo)) vX5_fold iX9_digest_169 (rfl) rfl rfl rfl (Nat.le_of_ble_eq_true rfl) ⟨by decide, by decide⟩ ?_
                    refine wa_eql (y := tFold (dgK M (eFold M (tFold (dgS M w h rn s yr (w * h)) (M.1 35) (fun r => M.1 (31 + r)) 4) rn) 3) (M.1 9) (fun r => M.1 (3 + r)) 6) (by rw [show q = 3 by omega]) ?_
                    refine wa_lstore_n [(1, .long (tFold (dgK M (eFold M (tFold (dgS M w h rn s yr (w * h)) (M.1 35) (fun r => M.1 (31 + r)) 4) rn) 3) (M.1 9) (fun r => M.1 (3 + r)) 6)), (3, .int (nI (q))), (0, wm_r G (0))] dX9_digest_172 rfl (by decide) rfl ?_
                    refine wa_aload_n dX9_digest_173 rfl 2 rfl ?_
                    refine wa_getr gX9_digest_174 (rfl) rfl ?_
                    refine wa_lload_n dX9_digest_177 rfl 0 rfl ?_
                    refine wa_cVl (m_fold 10 4 80 TB_texts (tFold (dgK M (eFold M (tFold (dgS M w h rn s yr (w * h)) (M.1 35) (fun r => M.1 (31 + r)) 4) rn) 3) (M.1 9) (fun r => M.1 (3 + r)) 6) (txt_sz hTx)) vX5_fold iX9_digest_178 (rfl) rfl rfl rfl (Nat.le_of_ble_eq_true rfl) ⟨by decide, by decide⟩ ?_
                    exact wa_lret dX9_digest_181 rfl ⟨congrArg (fun z => some (Value.long z)) (rfl), rfl⟩
                  · refine wa_aload_n dX9_digest_120 rfl 2 rfl ?_
                    refine wa_getr gX9_digest_121 (rfl) rfl ?_
                    refine wa_iload_n dX9_digest_124 rfl 0 rfl ?_
                    refine wa_ialdN (e := q) dX9_digest_125 (rfl) (by omega) (by decide) ?_
                    refine wa_iconst (-1) dX9_digest_126 (by decide) ?_
                    refine wa_icmp_eq 144 dX9_digest_127 (by decide) (fun c_127 => ?_) (fun c_127 => ?_)
                    · refine wa_ldc2 (31) dX9_digest_144 kX9_digest_144 ?_
                      refine wa_lload_n dX9_digest_147 rfl 1 rfl ?_
                      refine wa_lmul dX9_digest_148 ?_
                      refine wa_aload_n dX9_digest_149 rfl 2 rfl ?_
                      refine wa_getr gX9_digest_150 (rfl) rfl ?_
                      refine wa_iload_n dX9_digest_153 rfl 0 rfl ?_
                      refine wa_ialdN (e := q) dX9_digest_154 (rfl) (by omega) (by decide) ?_
                      refine wa_i2l dX9_digest_155 ?_
                      refine wa_ladd dX9_digest_156 ?_
                      refine wa_eql (y := dgK M (eFold M (tFold (dgS M w h rn s yr (w * h)) (M.1 35) (fun r => M.1 (31 + r)) 4) rn) (q + 1)) (by show _ = 31 * (if M.1 95 q = -1 then _ else _) + _; first | rw [if_pos c_127] | rw [if_neg c_127]) ?_
                      refine wa_lstore_n [(1, .long (dgK M (eFold M (tFold (dgS M w h rn s yr (w * h)) (M.1 35) (fun r => M.1 (31 + r)) 4) rn) (q + 1))), (3, .int (nI (q))), (0, wm_r G (0))] dX9_digest_157 rfl (by decide) rfl ?_
                      refine wa_iinc ((nI (q + 1))) [(3, .int (nI (q + 1))), (1, .long (dgK M (eFold M (tFold (dgS M w h rn s yr (w * h)) (M.1 35) (fun r => M.1 (31 + r)) 4) rn) (q + 1))), (0, wm_r G (0))] dX9_digest_158 1 rfl (nI_inc _) (by decide) rfl ?_
                      refine wa_goto 115 dX9_digest_161 (by decide) ?_
                      exact ih_115 (q + 1) (by omega) (by omega)
                    · refine wa_ldc2 (31) dX9_digest_130 kX9_digest_130 ?_
                      refine wa_lload_n dX9_digest_133 rfl 1 rfl ?_
                      refine wa_lmul dX9_digest_134 ?_
                      refine wa_aload_n dX9_digest_135 rfl 2 rfl ?_
                      refine wa_getr gX9_digest_136 (rfl) rfl ?_
                      refine wa_iload_n dX9_digest_139 rfl 0 rfl ?_
                      refine wa_ialdN (e := q) dX9_digest_140 (rfl) (by omega) (by decide) ?_
                      refine wa_i2l dX9_digest_141 ?_
                      refine wa_ladd dX9_digest_142 ?_
                      refine wa_lstore_n [(1, .long (((31) * (dgK M (eFold M (tFold (dgS M w h rn s yr (w * h)) (M.1 35) (fun r => M.1 (31 + r)) 4) rn) q)) + ((((M).1 (94) (q))).toInt64))), (3, .int (nI (q))), (0, wm_r G (0))] dX9_digest_143 rfl (by decide) rfl ?_
                      refine wa_ldc2 (31) dX9_digest_144 kX9_digest_144 ?_
                      refine wa_lload_n dX9_digest_147 rfl 0 rfl ?_
                      refine wa_lmul dX9_digest_148 ?_
                      refine wa_aload_n dX9_digest_149 rfl 2 rfl ?_
                      refine wa_getr gX9_digest_150 (rfl) rfl ?_
                      refine wa_iload_n dX9_digest_153 rfl 1 rfl ?_
                      refine wa_ialdN (e := q) dX9_digest_154 (rfl) (by omega) (by decide) ?_
                      refine wa_i2l dX9_digest_155 ?_
                      refine wa_ladd dX9_digest_156 ?_
                      refine wa_eql (y := dgK M (eFold M (tFold (dgS M w h rn s yr (w * h)) (M.1 35) (fun r => M.1 (31 + r)) 4) rn) (q + 1)) (by show _ = 31 * (if M.1 95 q = -1 then _ else _) + _; first | rw [if_pos c_127] | rw [if_neg c_127]) ?_
                      refine wa_lstore_n [(1, .long (dgK M (eFold M (tFold (dgS M w h rn s yr (w * h)) (M.1 35) (fun r => M.1 (31 + r)) 4) rn) (q + 1))), (3, .int (nI (q))), (0, wm_r G (0))] dX9_digest_157 rfl (by decide) rfl ?_
                      refine wa_iinc ((nI (q + 1))) [(3, .int (nI (q + 1))), (1, .long (dgK M (eFold M (tFold (dgS M w h rn s yr (w * h)) (M.1 35) (fun r => M.1 (31 + r)) 4) rn) (q + 1))), (0, wm_r G (0))] dX9_digest_158 1 rfl (nI_inc _) (by decide) rfl ?_
                      refine wa_goto 115 dX9_digest_161 (by decide) ?_
                      exact ih_115 (q + 1) (by omega) (by omega)
              exact L_115 _ 0 (Nat.lt_succ_self _) (Nat.zero_le _)
            · refine wa_iconst (0) dX9_digest_56 (by decide) ?_
              refine wa_istore [(4, .int (0)), (3, .int (nI (k))), (1, .long (dgS M w h rn s yr k)), (0, wm_r G (0))] dX9_digest_57 (by decide) rfl ?_
              have L_59 : ∀ (n_ : Nat) (j : Nat), (6 - j) < n_ → (j ≤ 6) → WA G t_X9_digest (fun v_ N_ => v_ = some (.long (dgC M w h rn s yr)) ∧ N_ = M) 59 [(4, .int (nI (j))), (1, .long (hFold (dgS M w h rn s yr k) (fun i => (stTl M s k i).toInt64) j)), (3, .int (nI (k))), (0, wm_r G (0))] [] (M) := by
                intro n_
                induction n_ with
                | zero => intro j h_; exact absurd h_ (Nat.not_lt_zero _)
                | succ n_ ih_59 =>
                  intro j h_ hj
                  refine wa_iload dX9_digest_59 0 rfl ?_
                  refine wa_iconst (5) dX9_digest_61 (by decide) ?_
                  refine wa_icmp_gtN (a := j) (b := 5) 86 dX9_digest_62 (by decide) (by omega) (by omega) (fun c_62 => ?_) (fun c_62 => ?_)
                  · refine wa_iinc ((nI (k + 1))) [(3, .int (nI (k + 1))), (4, .int (nI (j))), (1, .long (hFold (dgS M w h rn s yr k) (fun i => (stTl M s k i).toInt64) j)), (0, wm_r G (0))] dX9_digest_86 2 rfl (nI_inc _) (by decide) rfl ?_
                    refine wa_goto 45 dX9_digest_89 (by decide) ?_
                    refine wa_sub [0, 2, 3] rfl ?_
                    rw [show j = 6 by omega]
                    exact ih_45 (k + 1) (by omega) (by omega)
                  · refine wa_ldc2 (31) dX9_digest_65 kX9_digest_65 ?_
                    refine wa_lload_n dX9_digest_68 rfl 1 rfl ?_
                    refine wa_lmul dX9_digest_69 ?_
                    refine wa_aload_n dX9_digest_70 rfl 3 rfl ?_
                    refine wa_iload_n dX9_digest_71 rfl 2 rfl ?_
                    refine wa_iload dX9_digest_72 0 rfl ?_
                    refine wa_cVi (m_stTl w h rn s yr ci k c_53 j (by omega)) vX9_stoneTells iX9_digest_74 (rfl) rfl rfl rfl (Nat.le_of_ble_eq_true rfl) ⟨by decide, by decide⟩ ?_
                    refine wa_i2l dX9_digest_77 ?_
                    refine wa_ladd dX9_digest_78 ?_
                    refine wa_eql (y := hFold (dgS M w h rn s yr k) (fun i => (stTl M s k i).toInt64) (j + 1)) (rfl) ?_
                    refine wa_lstore_n [(1, .long (hFold (dgS M w h rn s yr k) (fun i => (stTl M s k i).toInt64) (j + 1))), (4, .int (nI (j))), (3, .int (nI (k))), (0, wm_r G (0))] dX9_digest_79 rfl (by decide) rfl ?_
                    refine wa_iinc ((nI (j + 1))) [(4, .int (nI (j + 1))), (1, .long (hFold (dgS M w h rn s yr k) (fun i => (stTl M s k i).toInt64) (j + 1))), (3, .int (nI (k))), (0, wm_r G (0))] dX9_digest_80 1 rfl (nI_inc _) (by decide) rfl ?_
                    refine wa_goto 59 dX9_digest_83 (by decide) ?_
                    exact ih_59 (j + 1) (by omega) (by omega)
              refine wa_sub [0, 2, 1, 3] rfl ?_
              exact L_59 _ 0 (Nat.lt_succ_self _) (Nat.zero_le _)
        exact L_45 _ 0 (Nat.lt_succ_self _) (Nat.zero_le _)
      · refine wa_ldc2 (31) dX9_digest_12 kX9_digest_12 ?_
        refine wa_lload_n dX9_digest_15 rfl 1 rfl ?_
        refine wa_lmul dX9_digest_16 ?_
        refine wa_aload_n dX9_digest_17 rfl 2 rfl ?_
        refine wa_iload_n dX9_digest_18 rfl 0 rfl ?_
        refine wa_cVi (m_tally w h rn s yr ci i (by omega)) vX9_tally iX9_digest_19 (rfl) rfl rfl rfl (Nat.le_of_ble_eq_true rfl) ⟨by decide, by decide⟩ ?_
        refine wa_i2l dX9_digest_22 ?_
        refine wa_ladd dX9_digest_23 ?_
        refine wa_eql (y := hFold 17 (fun i => (tal M w h rn i).toInt64) (i + 1)) (rfl) ?_
        refine wa_lstore_n [(1, .long (hFold 17 (fun i => (tal M w h rn i).toInt64) (i + 1))), (3, .int (nI (i))), (0, wm_r G (0))] dX9_digest_24 rfl (by decide) rfl ?_
        refine wa_iinc ((nI (i + 1))) [(3, .int (nI (i + 1))), (1, .long (hFold 17 (fun i => (tal M w h rn i).toInt64) (i + 1))), (0, wm_r G (0))] dX9_digest_25 1 rfl (nI_inc _) (by decide) rfl ?_
        refine wa_goto 6 dX9_digest_28 (by decide) ?_
        exact ih_6 (i + 1) (by omega) (by omega)
  exact L_6 _ 0 (Nat.lt_succ_self _) (Nat.zero_le _)
