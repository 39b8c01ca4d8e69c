theorem c_years_bad {G : wm_G} {M : wm_M} (set : Int32) (hset : wIn set 16 = false) : MD G t_X9_years [wm_r G (0), .int (set)] (M) (some (.int (-1))) (M) := by
  refine wm_met (by decide) (Nat.le_of_ble_eq_true rfl) ?_
  show WA G t_X9_years (fun v_ N_ => v_ = some (.int (-1)) ∧ N_ = M) 0 [(0, wm_r G (0)), (1, .int (set))] [] (M)
  refine wa_iload_n dX9_years_0 rfl 1 rfl ?_
  refine wa_cSi (m_isLS set) vX9_isLawSet iX9_years_1 rfl rfl (Nat.le_of_ble_eq_true rfl) ⟨by decide, by decide⟩ ?_
  refine wa_eqi (y := (0)) (by rw [hset]; rfl) ?_
  refine wa_if_ne 9 dX9_years_4 (by decide) (fun c_4 => absurd c_4 (by decide)) (fun c_4 => ?_)
  refine wa_iconst (-1) dX9_years_7 (by decide) ?_
  exact wa_iret dX9_years_8 rfl ⟨congrArg (fun z => some (Value.int z)) (rfl), rfl⟩

theorem c_years_no {G : wm_G} {M : wm_M} (w h rn s yr : Nat) (ci : CI M w h rn s yr) (set : Nat) (hset : set < 16) (he : yrs M w h s set = -9) : MA G t_X9_years [wm_r G (0), .int (nI (set))] (M) (fun v N => v = some (.int (-9)) ∧ EqR M N) := by
  obtain ⟨⟨hW, hwh⟩, hSt, ⟨h12, h13, hyr, hs4, hsh⟩, hRo, hTx, hLw, hKp, hRO, ⟨hL1, hL10, hL29, hL58⟩, hSe, hDy⟩ := id ci
  have hn6 := TW_n hW
  have hs : s < 4096 := Nat.lt_of_lt_of_le hs4 (p4_le hn6)
  have hw3 := hW.2.2.1
  have hh2 := hW.2.2.2
  refine wm_met (by decide) (Nat.le_of_ble_eq_true rfl) ?_
  show WA G t_X9_years (fun v N => v = some (.int (-9)) ∧ EqR M N) 0 [(0, wm_r G (0)), (1, .int (nI (set)))] [] (M)
  refine wa_iload_n dX9_years_0 rfl 1 rfl ?_
  refine wa_cSi (m_isLS (nI set)) vX9_isLawSet iX9_years_1 rfl rfl (Nat.le_of_ble_eq_true rfl) ⟨by decide, by decide⟩ ?_
  refine wa_eqi (y := (1)) (by rw [wIn_nI (by omega), decide_eq_true hset]; rfl) ?_
  refine wa_if_ne 9 dX9_years_4 (by decide) (fun c_4 => ?_) (fun c_4 => absurd c_4 (by decide))
  refine wa_aload_n dX9_years_9 rfl 0 rfl ?_
  refine wa_getr gX9_years_10 (rfl) rfl ?_
  refine wa_aload_n dX9_years_13 rfl 0 rfl ?_
  refine wa_geti gX9_years_14 (rfl) rfl ?_
  refine wa_eqi (y := (nI (s))) (h12) ?_
  refine wa_iload_n dX9_years_17 rfl 1 rfl ?_
  refine wa_callV (m_wleastYears w h hW s set hs hset) vX8_leastYears iX9_years_18 (rfl) rfl rfl rfl (Nat.le_of_ble_eq_true rfl) ⟨by decide, by decide⟩ (fun v_ N h_ => ?_)
  obtain ⟨rfl, hF, hrc⟩ := h_
  show WA G t_X9_years (fun v N => v = some (.int (-9)) ∧ EqR M N) 21 [(0, wm_r G (0)), (1, .int (nI (set)))] [.int (yrs M w h s set)] (N)
  refine wa_eqi (y := (-9)) (he) ?_
  refine wa_istore_n [(2, .int (-9)), (0, wm_r G (0)), (1, .int (nI (set)))] dX9_years_21 rfl (by decide) rfl ?_
  refine wa_iload_n dX9_years_22 rfl 0 rfl ?_
  refine wa_bipush (-9) dX9_years_23 (by decide) ?_
  refine wa_icmp_ne 31 dX9_years_25 (by decide) (fun c_25 => absurd c_25 (by decide)) (fun c_25 => ?_)
  refine wa_bipush (-9) dX9_years_28 (by decide) ?_
  refine wa_iret dX9_years_30 rfl ?_
  exact ⟨rfl, EqR.want hF⟩

theorem c_years_ok {G : wm_G} {M : wm_M} (w h rn s yr : Nat) (ci : CI M w h rn s yr) (set : Nat) (hset : set < 16) (n : Nat) (hn18 : n ≤ 18) (he : yrs M w h s set = nI n) : MA G t_X9_years [wm_r G (0), .int (nI (set))] (M) (fun v N => v = some (.int (nI n)) ∧ EqR (tTell M (rch M w h s set n)) N) := by
  obtain ⟨⟨hW, hwh⟩, hSt, ⟨h12, h13, hyr, hs4, hsh⟩, hRo, hTx, hLw, hKp, hRO, ⟨hL1, hL10, hL29, hL58⟩, hSe, hDy⟩ := id ci
  have hn6 := TW_n hW
  have hs : s < 4096 := Nat.lt_of_lt_of_le hs4 (p4_le hn6)
  have hw3 := hW.2.2.1
  have hh2 := hW.2.2.2
  refine wm_met (by decide) (Nat.le_of_ble_eq_true rfl) ?_
  show WA G t_X9_years (fun v N => v = some (.int (nI n)) ∧ EqR (tTell M (rch M w h s set n)) N) 0 [(0, wm_r G (0)), (1, .int (nI (set)))] [] (M)
  refine wa_iload_n dX9_years_0 rfl 1 rfl ?_
  refine wa_cSi (m_isLS (nI set)) vX9_isLawSet iX9_years_1 rfl rfl (Nat.le_of_ble_eq_true rfl) ⟨by decide, by decide⟩ ?_
  refine wa_eqi (y := (1)) (by rw [wIn_nI (by omega), decide_eq_true hset]; rfl) ?_
  refine wa_if_ne 9 dX9_years_4 (by decide) (fun c_4 => ?_) (fun c_4 => absurd c_4 (by decide))
  refine wa_aload_n dX9_years_9 rfl 0 rfl ?_
  refine wa_getr gX9_years_10 (rfl) rfl ?_
  refine wa_aload_n dX9_years_13 rfl 0 rfl ?_
  refine wa_geti gX9_years_14 (rfl) rfl ?_
  refine wa_eqi (y := (nI (s))) (h12) ?_
  refine wa_iload_n dX9_years_17 rfl 1 rfl ?_
  refine wa_callV (m_wleastYears w h hW s set hs hset) vX8_leastYears iX9_years_18 (rfl) rfl rfl rfl (Nat.le_of_ble_eq_true rfl) ⟨by decide, by decide⟩ (fun v_ N h_ => ?_)
  obtain ⟨rfl, hF, hrc⟩ := h_
  show WA G t_X9_years (fun v N => v = some (.int (nI n)) ∧ EqR (tTell M (rch M w h s set n)) N) 21 [(0, wm_r G (0)), (1, .int (nI (set)))] [.int (yrs M w h s set)] (N)
  refine wa_eqi (y := (nI (n))) (he) ?_
  refine wa_istore_n [(2, .int (nI (n))), (0, wm_r G (0)), (1, .int (nI (set)))] dX9_years_21 rfl (by decide) rfl ?_
  refine wa_iload_n dX9_years_22 rfl 0 rfl ?_
  refine wa_bipush (-9) dX9_years_23 (by decide) ?_
  refine wa_icmp_ne 31 dX9_years_25 (by decide) (fun c_25 => ?_) (fun c_25 => absurd c_25 (nI_ne9 (by omega)))
  refine wa_aload_n dX9_years_31 rfl 1 rfl ?_
  refine wa_getr gX9_years_32 (rfl) rfl ?_
  refine wa_aload_n dX9_years_35 rfl 1 rfl ?_
  refine wa_getr gX9_years_36 (rfl) rfl ?_
  refine wa_geti gX9_years_39 (rfl) rfl ?_
  refine wa_eqi (y := (rch M w h s set n)) (hrc n hn18 he) ?_
  refine wa_puti gX9_years_42 (rfl) rfl ?_
  refine wa_iload_n dX9_years_45 rfl 0 rfl ?_
  refine wa_iret dX9_years_46 rfl ?_
  exact ⟨rfl, (EqR.want hF).tell⟩

theorem c_lives_bad1 {G : wm_G} {M : wm_M} (set p : Int32) (hset : wIn set 16 = false) : MD G t_X9_lives [wm_r G (0), .int (set), .int (p)] (M) (some (.int (-1))) (M) := by
  refine wm_met (by decide) (Nat.le_of_ble_eq_true rfl) ?_
  show WA G t_X9_lives (fun v_ N_ => v_ = some (.int (-1)) ∧ N_ = M) 0 [(0, wm_r G (0)), (1, .int (set)), (2, .int (p))] [] (M)
  refine wa_iload_n dX9_lives_0 rfl 1 rfl ?_
  refine wa_cSi (m_isLS set) vX9_isLawSet iX9_lives_1 rfl rfl (Nat.le_of_ble_eq_true rfl) ⟨by decide, by decide⟩ ?_
  refine wa_eqi (y := (0)) (by rw [hset]; rfl) ?_
  refine wa_if_eq 18 dX9_lives_4 (by decide) (fun c_4 => ?_) (fun c_4 => absurd c_4 (by decide))
  refine wa_iconst (-1) dX9_lives_18 (by decide) ?_
  exact wa_iret dX9_lives_19 rfl ⟨congrArg (fun z => some (Value.int z)) (rfl), rfl⟩

theorem c_lives_bad2 {G : wm_G} {M : wm_M} (set : Nat) (hset : set < 16) (p : Int32) (hp : p < 1 ∨ ¬ p ≤ 12) : MD G t_X9_lives [wm_r G (0), .int (nI (set)), .int (p)] (M) (some (.int (-1))) (M) := by
  refine wm_met (by decide) (Nat.le_of_ble_eq_true rfl) ?_
  show WA G t_X9_lives (fun v_ N_ => v_ = some (.int (-1)) ∧ N_ = M) 0 [(0, wm_r G (0)), (1, .int (nI (set))), (2, .int (p))] [] (M)
  refine wa_iload_n dX9_lives_0 rfl 1 rfl ?_
  refine wa_cSi (m_isLS (nI set)) vX9_isLawSet iX9_lives_1 rfl rfl (Nat.le_of_ble_eq_true rfl) ⟨by decide, by decide⟩ ?_
  refine wa_eqi (y := (1)) (by rw [wIn_nI (by omega), decide_eq_true hset]; rfl) ?_
  refine wa_if_eq 18 dX9_lives_4 (by decide) (fun c_4 => absurd c_4 (by decide)) (fun c_4 => ?_)
  refine wa_iload_n dX9_lives_7 rfl 2 rfl ?_
  refine wa_iconst (1) dX9_lives_8 (by decide) ?_
  refine wa_icmp_lt 18 dX9_lives_9 (by decide) (fun c_9 => ?_) (fun c_9 => ?_)
  · refine wa_iconst (-1) dX9_lives_18 (by decide) ?_
    exact wa_iret dX9_lives_19 rfl ⟨congrArg (fun z => some (Value.int z)) (rfl), rfl⟩
  · refine wa_iload_n dX9_lives_12 rfl 2 rfl ?_
    refine wa_bipush (12) dX9_lives_13 (by decide) ?_
    refine wa_icmp_le 20 dX9_lives_15 (by decide) (fun c_15 => absurd hp (fun q => q.elim c_9 (fun q => q c_15))) (fun c_15 => ?_)
    refine wa_iconst (-1) dX9_lives_18 (by decide) ?_
    exact wa_iret dX9_lives_19 rfl ⟨congrArg (fun z => some (Value.int z)) (rfl), rfl⟩

theorem c_lives_no {G : wm_G} {M : wm_M} (w h rn s yr : Nat) (ci : CI M w h rn s yr) (set : Nat) (hset : set < 16) (he : yrs M w h s set = -9) (p : Nat) (hp1 : 1 ≤ p) (hp : p ≤ 12) : MA G t_X9_lives [wm_r G (0), .int (nI (set)), .int (nI (p))] (M) (fun v N => v = some (.int (-9)) ∧ EqR M N) := by
  obtain ⟨⟨hW, hwh⟩, hSt, ⟨h12, h13, hyr, hs4, hsh⟩, hRo, hTx, hLw, hKp, hRO, ⟨hL1, hL10, hL29, hL58⟩, hSe, hDy⟩ := id ci
  have hn6 := TW_n hW
  have hs : s < 4096 := Nat.lt_of_lt_of_le hs4 (p4_le hn6)
  have hw3 := hW.2.2.1
  have hh2 := hW.2.2.2
  refine wm_met (by decide) (Nat.le_of_ble_eq_true rfl) ?_
  show WA G t_X9_lives (fun v N => v = some (.int (-9)) ∧ EqR M N) 0 [(0, wm_r G (0)), (1, .int (nI (set))), (2, .int (nI (p)))] [] (M)
  refine wa_iload_n dX9_lives_0 rfl 1 rfl ?_
  refine wa_cSi (m_isLS (nI set)) vX9_isLawSet iX9_lives_1 rfl rfl (Nat.le_of_ble_eq_true rfl) ⟨by decide, by decide⟩ ?_
  refine wa_eqi (y := (1)) (by rw [wIn_nI (by omega), decide_eq_true hset]; rfl) ?_
  refine wa_if_eq 18 dX9_lives_4 (by decide) (fun c_4 => absurd c_4 (by decide)) (fun c_4 => ?_)
  refine wa_iload_n dX9_lives_7 rfl 2 rfl ?_
  refine wa_iconst (1) dX9_lives_8 (by decide) ?_
  refine wa_icmp_ltN (a := p) (b := 1) 18 dX9_lives_9 (by decide) (by omega) (by omega) (fun c_9 => absurd c_9 (by omega)) (fun c_9 => ?_)
  refine wa_iload_n dX9_lives_12 rfl 2 rfl ?_
  refine wa_bipush (12) dX9_lives_13 (by decide) ?_
  refine wa_icmp_leN (a := p) (b := 12) 20 dX9_lives_15 (by decide) (by omega) (by omega) (fun c_15 => ?_) (fun c_15 => absurd c_15 (by omega))
  refine wa_aload_n dX9_lives_20 rfl 0 rfl ?_
  refine wa_getr gX9_lives_21 (rfl) rfl ?_
  refine wa_aload_n dX9_lives_24 rfl 0 rfl ?_
  refine wa_geti gX9_lives_25 (rfl) rfl ?_
  refine wa_eqi (y := (nI (s))) (h12) ?_
  refine wa_iload_n dX9_lives_28 rfl 1 rfl ?_
  refine wa_callV (m_wleastYears w h hW s set hs hset) vX8_leastYears iX9_lives_29 (rfl) rfl rfl rfl (Nat.le_of_ble_eq_true rfl) ⟨by decide, by decide⟩ (fun v_ N h_ => ?_)
  obtain ⟨rfl, hF, hrc⟩ := h_
  show WA G t_X9_lives (fun v N => v = some (.int (-9)) ∧ EqR M N) 32 [(0, wm_r G (0)), (1, .int (nI (set))), (2, .int (nI (p)))] [.int (yrs M w h s set)] (N)
  refine wa_eqi (y := (-9)) (he) ?_
  refine wa_istore_n [(3, .int (-9)), (0, wm_r G (0)), (1, .int (nI (set))), (2, .int (nI (p)))] dX9_lives_32 rfl (by decide) rfl ?_
  refine wa_iload_n dX9_lives_33 rfl 0 rfl ?_
  refine wa_bipush (-9) dX9_lives_34 (by decide) ?_
  refine wa_icmp_ne 42 dX9_lives_36 (by decide) (fun c_36 => absurd c_36 (by decide)) (fun c_36 => ?_)
  refine wa_bipush (-9) dX9_lives_39 (by decide) ?_
  refine wa_iret dX9_lives_41 rfl ?_
  exact ⟨rfl, EqR.want hF⟩

theorem c_lives_sp {G : wm_G} {M : wm_M} (w h rn s yr : Nat) (ci : CI M w h rn s yr) (set : Nat) (hset : set < 16) (n : Nat) (hn18 : n ≤ 18) (he : yrs M w h s set = nI n) (p : Nat) (hp1 : 1 ≤ p) (hp : p ≤ 12) (h17 : 17 < n) : MA G t_X9_lives [wm_r G (0), .int (nI (set)), .int (nI (p))] (M) (fun v N => v = some (.int (-6)) ∧ EqR M N) := by
  obtain ⟨⟨hW, hwh⟩, hSt, ⟨h12, h13, hyr, hs4, hsh⟩, hRo, hTx, hLw, hKp, hRO, ⟨hL1, hL10, hL29, hL58⟩, hSe, hDy⟩ := id ci
  have hn6 := TW_n hW
  have hs : s < 4096 := Nat.lt_of_lt_of_le hs4 (p4_le hn6)
  have hw3 := hW.2.2.1
  have hh2 := hW.2.2.2
  refine wm_met (by decide) (Nat.le_of_ble_eq_true rfl) ?_
  show WA G t_X9_lives (fun v N => v = some (.int (-6)) ∧ EqR M N) 0 [(0, wm_r G (0)), (1, .int (nI (set))), (2, .int (nI (p)))] [] (M)
  refine wa_iload_n dX9_lives_0 rfl 1 rfl ?_
  refine wa_cSi (m_isLS (nI set)) vX9_isLawSet iX9_lives_1 rfl rfl (Nat.le_of_ble_eq_true rfl) ⟨by decide, by decide⟩ ?_
  refine wa_eqi (y := (1)) (by rw [wIn_nI (by omega), decide_eq_true hset]; rfl) ?_
  refine wa_if_eq 18 dX9_lives_4 (by decide) (fun c_4 => absurd c_4 (by decide)) (fun c_4 => ?_)
  refine wa_iload_n dX9_lives_7 rfl 2 rfl ?_
  refine wa_iconst (1) dX9_lives_8 (by decide) ?_
  refine wa_icmp_ltN (a := p) (b := 1) 18 dX9_lives_9 (by decide) (by omega) (by omega) (fun c_9 => absurd c_9 (by omega)) (fun c_9 => ?_)
  refine wa_iload_n dX9_lives_12 rfl 2 rfl ?_
  refine wa_bipush (12) dX9_lives_13 (by decide) ?_
  refine wa_icmp_leN (a := p) (b := 12) 20 dX9_lives_15 (by decide) (by omega) (by omega) (fun c_15 => ?_) (fun c_15 => absurd c_15 (by omega))
  refine wa_aload_n dX9_lives_20 rfl 0 rfl ?_
  refine wa_getr gX9_lives_21 (rfl) rfl ?_
  refine wa_aload_n dX9_lives_24 rfl 0 rfl ?_
  refine wa_geti gX9_lives_25 (rfl) rfl ?_
  refine wa_eqi (y := (nI (s))) (h12) ?_
  refine wa_iload_n dX9_lives_28 rfl 1 rfl ?_
  refine wa_callV (m_wleastYears w h hW s set hs hset) vX8_leastYears iX9_lives_29 (rfl) rfl rfl rfl (Nat.le_of_ble_eq_true rfl) ⟨by decide, by decide⟩ (fun v_ N h_ => ?_)
  obtain ⟨rfl, hF, hrc⟩ := h_
  show WA G t_X9_lives (fun v N => v = some (.int (-6)) ∧ EqR M N) 32 [(0, wm_r G (0)), (1, .int (nI (set))), (2, .int (nI (p)))] [.int (yrs M w h s set)] (N)
  refine wa_eqi (y := (nI (n))) (he) ?_
  refine wa_istore_n [(3, .int (nI (n))), (0, wm_r G (0)), (1, .int (nI (set))), (2, .int (nI (p)))] dX9_lives_32 rfl (by decide) rfl ?_
  refine wa_iload_n dX9_lives_33 rfl 0 rfl ?_
  refine wa_bipush (-9) dX9_lives_34 (by decide) ?_
  refine wa_icmp_ne 42 dX9_lives_36 (by decide) (fun c_36 => ?_) (fun c_36 => absurd c_36 (nI_ne9 (by omega)))
  refine wa_iload_n dX9_lives_42 rfl 0 rfl ?_
  refine wa_bipush (17) dX9_lives_43 (by decide) ?_
  refine wa_icmp_leN (a := n) (b := 17) 51 dX9_lives_45 (by decide) (by omega) (by omega) (fun c_45 => absurd c_45 (by omega)) (fun c_45 => ?_)
  refine wa_bipush (-6) dX9_lives_48 (by decide) ?_
  refine wa_iret dX9_lives_50 rfl ?_
  exact ⟨rfl, EqR.want hF⟩

theorem c_lives_ok {G : wm_G} {M : wm_M} (w h rn s yr : Nat) (ci : CI M w h rn s yr) (set : Nat) (hset : set < 16) (n : Nat) (hn18 : n ≤ 18) (he : yrs M w h s set = nI n) (p : Nat) (hp1 : 1 ≤ p) (hp : p ≤ 12) (h17 : n ≤ 17) : MA G t_X9_lives [wm_r G (0), .int (nI (set)), .int (nI (p))] (M) (fun v N => v = some (.int (nI n)) ∧ EqR (tFrac M (p ^ n) (12 ^ n)) N) := by
  obtain ⟨⟨hW, hwh⟩, hSt, ⟨h12, h13, hyr, hs4, hsh⟩, hRo, hTx, hLw, hKp, hRO, ⟨hL1, hL10, hL29, hL58⟩, hSe, hDy⟩ := id ci
  have hn6 := TW_n hW
  have hs : s < 4096 := Nat.lt_of_lt_of_le hs4 (p4_le hn6)
  have hw3 := hW.2.2.1
  have hh2 := hW.2.2.2
  have hb12 : 12 ^ n < 2 ^ 63 := Nat.lt_of_le_of_lt (Nat.pow_le_pow_right (by decide) h17) (by decide)
  have hbp : p ^ n < 2 ^ 63 := Nat.lt_of_le_of_lt (Nat.pow_le_pow_left hp n) hb12
  refine wm_met (by decide) (Nat.le_of_ble_eq_true rfl) ?_
  show WA G t_X9_lives (fun v N => v = some (.int (nI n)) ∧ EqR (tFrac M (p ^ n) (12 ^ n)) N) 0 [(0, wm_r G (0)), (1, .int (nI (set))), (2, .int (nI (p)))] [] (M)
  refine wa_iload_n dX9_lives_0 rfl 1 rfl ?_
  refine wa_cSi (m_isLS (nI set)) vX9_isLawSet iX9_lives_1 rfl rfl (Nat.le_of_ble_eq_true rfl) ⟨by decide, by decide⟩ ?_
  refine wa_eqi (y := (1)) (by rw [wIn_nI (by omega), decide_eq_true hset]; rfl) ?_
  refine wa_if_eq 18 dX9_lives_4 (by decide) (fun c_4 => absurd c_4 (by decide)) (fun c_4 => ?_)
  refine wa_iload_n dX9_lives_7 rfl 2 rfl ?_
  refine wa_iconst (1) dX9_lives_8 (by decide) ?_
  refine wa_icmp_ltN (a := p) (b := 1) 18 dX9_lives_9 (by decide) (by omega) (by omega) (fun c_9 => absurd c_9 (by omega)) (fun c_9 => ?_)
  refine wa_iload_n dX9_lives_12 rfl 2 rfl ?_
  refine wa_bipush (12) dX9_lives_13 (by decide) ?_
  refine wa_icmp_leN (a := p) (b := 12) 20 dX9_lives_15 (by decide) (by omega) (by omega) (fun c_15 => ?_) (fun c_15 => absurd c_15 (by omega))
  refine wa_aload_n dX9_lives_20 rfl 0 rfl ?_
  refine wa_getr gX9_lives_21 (rfl) rfl ?_
  refine wa_aload_n dX9_lives_24 rfl 0 rfl ?_
  refine wa_geti gX9_lives_25 (rfl) rfl ?_
  refine wa_eqi (y := (nI (s))) (h12) ?_
  refine wa_iload_n dX9_lives_28 rfl 1 rfl ?_
  refine wa_callV (m_wleastYears w h hW s set hs hset) vX8_leastYears iX9_lives_29 (rfl) rfl rfl rfl (Nat.le_of_ble_eq_true rfl) ⟨by decide, by decide⟩ (fun v_ N h_ => ?_)
  obtain ⟨rfl, hF, hrc⟩ := h_
  show WA G t_X9_lives (fun v N => v = some (.int (nI n)) ∧ EqR (tFrac M (p ^ n) (12 ^ n)) N) 32 [(0, wm_r G (0)), (1, .int (nI (set))), (2, .int (nI (p)))] [.int (yrs M w h s set)] (N)
  refine wa_eqi (y := (nI (n))) (he) ?_
  refine wa_istore_n [(3, .int (nI (n))), (0, wm_r G (0)), (1, .int (nI (set))), (2, .int (nI (p)))] dX9_lives_32 rfl (by decide) rfl ?_
  refine wa_iload_n dX9_lives_33 rfl 0 rfl ?_
  refine wa_bipush (-9) dX9_lives_34 (by decide) ?_
  refine wa_icmp_ne 42 dX9_lives_36 (by decide) (fun c_36 => ?_) (fun c_36 => absurd c_36 (nI_ne9 (by omega)))
  refine wa_iload_n dX9_lives_42 rfl 0 rfl ?_
  refine wa_bipush (17) dX9_lives_43 (by decide) ?_
  refine wa_icmp_leN (a := n) (b := 17) 51 dX9_lives_45 (by decide) (by omega) (by omega) (fun c_45 => ?_) (fun c_45 => absurd c_45 (by omega))
  refine wa_lconst (1) dX9_lives_51 (by decide) ?_
  refine wa_eql (y := lN (p ^ 0)) (rfl) ?_
  refine wa_lstore [(4, .long (lN (p ^ 0))), (3, .int (nI (n))), (0, wm_r G (0)), (1, .int (nI (set))), (2, .int (nI (p)))] dX9_lives_52 (by decide) rfl ?_
  refine wa_lconst (1) dX9_lives_54 (by decide) ?_
  refine wa_eql (y := lN (12 ^ 0)) (rfl) ?_
  refine wa_lstore [(6, .long (lN (12 ^ 0))), (4, .long (lN (p ^ 0))), (3, .int (nI (n))), (0, wm_r G (0)), (1, .int (nI (set))), (2, .int (nI (p)))] dX9_lives_55 (by decide) rfl ?_
  refine wa_iconst (0) dX9_lives_57 (by decide) ?_
  refine wa_istore [(8, .int (0)), (6, .long (lN (12 ^ 0))), (4, .long (lN (p ^ 0))), (3, .int (nI (n))), (0, wm_r G (0)), (1, .int (nI (set))), (2, .int (nI (p)))] dX9_lives_58 (by decide) rfl ?_
  have L_60 : ∀ (n_ : Nat) (i : Nat), (n - i) < n_ → (i ≤ n) → WA G t_X9_lives (fun v N => v = some (.int (nI n)) ∧ EqR (tFrac M (p ^ n) (12 ^ n)) N) 60 [(8, .int (nI (i))), (6, .long (lN (12 ^ i))), (4, .long (lN (p ^ i))), (3, .int (nI (n))), (0, wm_r G (0)), (2, .int (nI (p)))] [] (N) := by
    intro n_
    induction n_ with
    | zero => intro i h_; exact absurd h_ (Nat.not_lt_zero _)
    | succ n_ ih_60 =>
      intro i h_ hi
      refine wa_iload dX9_lives_60 0 rfl ?_
      refine wa_iload_n dX9_lives_62 rfl 3 rfl ?_
      refine wa_icmp_geN (a := i) (b := n) 87 dX9_lives_63 (by decide) (by omega) (by omega) (fun c_63 => ?_) (fun c_63 => ?_)
      · refine wa_aload_n dX9_lives_87 rfl 4 rfl ?_
        refine wa_getr gX9_lives_88 (rfl) rfl ?_
        refine wa_lload dX9_lives_91 2 rfl ?_
        refine wa_eql (y := lN (p ^ n)) (by rw [show i = n by omega]) ?_
        refine wa_lload dX9_lives_93 1 rfl ?_
        refine wa_eql (y := lN (12 ^ n)) (by rw [show i = n by omega]) ?_
        refine wa_cVv (m_tfrac (p ^ n) (12 ^ n) hbp hb12 (Nat.pow_pos (by decide))) vX6_fraction iX9_lives_95 (rfl) rfl rfl rfl (Nat.le_of_ble_eq_true rfl) ⟨by decide, by decide⟩ ?_
        refine wa_iload_n dX9_lives_98 rfl 3 rfl ?_
        refine wa_iret dX9_lives_99 rfl ?_
        exact ⟨rfl, (EqR.want hF).frac⟩
      · refine wa_lload dX9_lives_66 2 rfl ?_
        refine wa_iload_n dX9_lives_68 rfl 5 rfl ?_
        refine wa_i2l dX9_lives_69 ?_
        refine wa_lmul dX9_lives_70 ?_
        refine wa_eql (y := lN (p ^ (i + 1))) (by rw [nI_l (by omega), lN_mul, Nat.pow_succ]) ?_
        refine wa_lstore [(4, .long (lN (p ^ (i + 1)))), (8, .int (nI (i))), (6, .long (lN (12 ^ i))), (3, .int (nI (n))), (0, wm_r G (0)), (2, .int (nI (p)))] dX9_lives_71 (by decide) rfl ?_
        refine wa_lload dX9_lives_73 2 rfl ?_
        refine wa_ldc2 (12) dX9_lives_75 kX9_lives_75 ?_
        refine wa_lmul dX9_lives_78 ?_
        refine wa_eql (y := lN (12 ^ (i + 1))) (by rw [show (12 : Int64) = lN 12 from rfl, lN_mul, Nat.pow_succ]) ?_
        refine wa_lstore [(6, .long (lN (12 ^ (i + 1)))), (4, .long (lN (p ^ (i + 1)))), (8, .int (nI (i))), (3, .int (nI (n))), (0, wm_r G (0)), (2, .int (nI (p)))] dX9_lives_79 (by decide) rfl ?_
        refine wa_iinc ((nI (i + 1))) [(8, .int (nI (i + 1))), (6, .long (lN (12 ^ (i + 1)))), (4, .long (lN (p ^ (i + 1)))), (3, .int (nI (n))), (0, wm_r G (0)), (2, .int (nI (p)))] dX9_lives_81 2 rfl (nI_inc _) (by decide) rfl ?_
        refine wa_goto 60 dX9_lives_84 (by decide) ?_
        exact ih_60 (i + 1) (by omega) (by omega)
  refine wa_sub [0, 1, 2, 3, 4, 6] rfl ?_
  exact L_60 _ 0 (Nat.lt_succ_self _) (Nat.zero_le _)
