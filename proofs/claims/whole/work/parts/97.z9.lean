theorem x_hist_bad {G : wm_G} {M : wm_M} (n : Int32) (hy : wIn n 10 = false) : MD G t_X10_histories [wm_r G (96), .int (n)] (M) (some (.int (-1))) (M) := by
  refine wm_met (by decide) (Nat.le_of_ble_eq_true rfl) ?_
  show WA G t_X10_histories (fun v_ N_ => v_ = some (.int (-1)) ∧ N_ = M) 0 [(0, wm_r G (96)), (1, .int (n))] [] (M)
  refine wa_iload_n dX10_histories_0 rfl 1 rfl ?_
  refine wa_cSi (x_areYears n) vX10_areYears iX10_histories_1 rfl rfl (Nat.le_of_ble_eq_true rfl) ⟨by decide, by decide⟩ ?_
  refine wa_eqi (y := (0)) (by rw [hy]; rfl) ?_
  refine wa_if_ne 9 dX10_histories_4 (by decide) (fun c_4 => absurd c_4 (by decide)) (fun c_4 => ?_)
  refine wa_iconst (-1) dX10_histories_7 (by decide) ?_
  exact wa_iret dX10_histories_8 rfl ⟨congrArg (fun z => some (Value.int z)) (rfl), rfl⟩

theorem x_hist_no {G : wm_G} {M : wm_M} (C : wm_M) (w h rn : Nat) (hX : xStn C M w h) (hW : TW C w h) (hRO : RecOk C w h rn) (hE : xEng C M w h rn) (n : Nat) (hy : n < 10) (h0 : ONn C w h rn n n 0 = 0) : MA G t_X10_histories [wm_r G (96), .int (nI (n))] (M) (fun v N => v = some (.int (-3)) ∧ ∃ O, FrX M O ∧ N = xNote O 4) := by
  obtain ⟨x10, x11, x12, x103, x104, x105, x106⟩ := id hX
  have hn6 := TW_n hW
  have hw3 := hW.2.2.1
  have hh2 := hW.2.2.2
  have h4 := p4_le hn6
  have h40 : 0 < 4 ^ (w * h) := Nat.pow_pos (by decide)
  have hon9 := ON_le (C := C) (rn := rn) (n := n) (d := n) (t := 0) hn6 (by omega) h40
  refine wm_met (by decide) (Nat.le_of_ble_eq_true rfl) ?_
  show WA G t_X10_histories (fun v N => v = some (.int (-3)) ∧ ∃ O, FrX M O ∧ N = xNote O 4) 0 [(0, wm_r G (96)), (1, .int (nI (n)))] [] (M)
  refine wa_iload_n dX10_histories_0 rfl 1 rfl ?_
  refine wa_cSi (x_areYears (nI n)) vX10_areYears iX10_histories_1 rfl rfl (Nat.le_of_ble_eq_true rfl) ⟨by decide, by decide⟩ ?_
  refine wa_eqi (y := (1)) (by rw [wIn_nI (by omega), decide_eq_true (by omega)]; rfl) ?_
  refine wa_if_ne 9 dX10_histories_4 (by decide) (fun c_4 => ?_) (fun c_4 => absurd c_4 (by decide))
  refine wa_aload_n dX10_histories_9 rfl 0 rfl ?_
  refine wa_iload_n dX10_histories_10 rfl 1 rfl ?_
  refine wa_callV (x_layHist C w h rn hX hW hRO hE n (by omega)) vX10_layHistories iX10_histories_11 (rfl) rfl rfl rfl (Nat.le_of_ble_eq_true rfl) ⟨by decide, by decide⟩ (fun v_ N1 h_ => ?_)
  obtain ⟨rfl, hF1, hfo, hon⟩ := h_
  show WA G t_X10_histories (fun v N => v = some (.int (-3)) ∧ ∃ O, FrX M O ∧ N = xNote O 4) 14 [(0, wm_r G (96)), (1, .int (nI (n)))] [] (N1)
  refine wa_aload_n dX10_histories_14 rfl 0 rfl ?_
  refine wa_getr gX10_histories_15 (rfl) rfl ?_
  refine wa_iconst (0) dX10_histories_18 (by decide) ?_
  refine wa_laldN (e := 0) dX10_histories_19 (rfl) (by omega) (by decide) ?_
  refine wa_eql (y := lN (ONn C w h rn n n 0)) (hon 0 (Nat.zero_le _) 0 h40) ?_
  refine wa_lconst (0) dX10_histories_20 (by decide) ?_
  refine wa_lcmp dX10_histories_21 ?_
  refine wa_if_ne 33 dX10_histories_22 (by decide) (fun c_22 => absurd ((lg_cmp0 (by omega)).mpr h0) c_22) (fun c_22 => ?_)
  refine wa_aload_n dX10_histories_25 rfl 0 rfl ?_
  refine wa_iconst (4) dX10_histories_26 (by decide) ?_
  refine wa_cVi (x_meets 4 (by decide) (by decide)) vX10_meets iX10_histories_27 (rfl) rfl rfl rfl (Nat.le_of_ble_eq_true rfl) ⟨by decide, by decide⟩ ?_
  refine wa_goto 45 dX10_histories_30 (by decide) ?_
  refine wa_iret dX10_histories_45 rfl ?_
  exact ⟨rfl, N1, hF1.x, rfl⟩

theorem x_hist_ok {G : wm_G} {M : wm_M} (C : wm_M) (w h rn : Nat) (hX : xStn C M w h) (hW : TW C w h) (hRO : RecOk C w h rn) (hE : xEng C M w h rn) (n : Nat) (hy : n < 10) (h0 : 0 < ONn C w h rn n n 0) : MA G t_X10_histories [wm_r G (96), .int (nI (n))] (M) (fun v N => v = some (.int 1) ∧ ∃ O, FrX M O ∧ N = xFr2 O (lN (ONn C w h rn n n 0 / Nat.gcd (ONn C w h rn n n 0) 1)) (lN (1 / Nat.gcd (ONn C w h rn n n 0) 1))) := by
  obtain ⟨x10, x11, x12, x103, x104, x105, x106⟩ := id hX
  have hn6 := TW_n hW
  have hw3 := hW.2.2.1
  have hh2 := hW.2.2.2
  have h4 := p4_le hn6
  have h40 : 0 < 4 ^ (w * h) := Nat.pow_pos (by decide)
  have hon9 := ON_le (C := C) (rn := rn) (n := n) (d := n) (t := 0) hn6 (by omega) h40
  refine wm_met (by decide) (Nat.le_of_ble_eq_true rfl) ?_
  show WA G t_X10_histories (fun v N => v = some (.int 1) ∧ ∃ O, FrX M O ∧ N = xFr2 O (lN (ONn C w h rn n n 0 / Nat.gcd (ONn C w h rn n n 0) 1)) (lN (1 / Nat.gcd (ONn C w h rn n n 0) 1))) 0 [(0, wm_r G (96)), (1, .int (nI (n)))] [] (M)
  refine wa_iload_n dX10_histories_0 rfl 1 rfl ?_
  refine wa_cSi (x_areYears (nI n)) vX10_areYears iX10_histories_1 rfl rfl (Nat.le_of_ble_eq_true rfl) ⟨by decide, by decide⟩ ?_
  refine wa_eqi (y := (1)) (by rw [wIn_nI (by omega), decide_eq_true (by omega)]; rfl) ?_
  refine wa_if_ne 9 dX10_histories_4 (by decide) (fun c_4 => ?_) (fun c_4 => absurd c_4 (by decide))
  refine wa_aload_n dX10_histories_9 rfl 0 rfl ?_
  refine wa_iload_n dX10_histories_10 rfl 1 rfl ?_
  refine wa_callV (x_layHist C w h rn hX hW hRO hE n (by omega)) vX10_layHistories iX10_histories_11 (rfl) rfl rfl rfl (Nat.le_of_ble_eq_true rfl) ⟨by decide, by decide⟩ (fun v_ N1 h_ => ?_)
  obtain ⟨rfl, hF1, hfo, hon⟩ := h_
  show WA G t_X10_histories (fun v N => v = some (.int 1) ∧ ∃ O, FrX M O ∧ N = xFr2 O (lN (ONn C w h rn n n 0 / Nat.gcd (ONn C w h rn n n 0) 1)) (lN (1 / Nat.gcd (ONn C w h rn n n 0) 1))) 14 [(0, wm_r G (96)), (1, .int (nI (n)))] [] (N1)
  refine wa_aload_n dX10_histories_14 rfl 0 rfl ?_
  refine wa_getr gX10_histories_15 (rfl) rfl ?_
  refine wa_iconst (0) dX10_histories_18 (by decide) ?_
  refine wa_laldN (e := 0) dX10_histories_19 (rfl) (by omega) (by decide) ?_
  refine wa_eql (y := lN (ONn C w h rn n n 0)) (hon 0 (Nat.zero_le _) 0 h40) ?_
  refine wa_lconst (0) dX10_histories_20 (by decide) ?_
  refine wa_lcmp dX10_histories_21 ?_
  refine wa_if_ne 33 dX10_histories_22 (by decide) (fun c_22 => ?_) (fun c_22 => absurd ((lg_cmp0 (by omega)).mp c_22) (by omega))
  refine wa_aload_n dX10_histories_33 rfl 0 rfl ?_
  refine wa_aload_n dX10_histories_34 rfl 0 rfl ?_
  refine wa_getr gX10_histories_35 (rfl) rfl ?_
  refine wa_iconst (0) dX10_histories_38 (by decide) ?_
  refine wa_laldN (e := 0) dX10_histories_39 (rfl) (by omega) (by decide) ?_
  refine wa_eql (y := lN (ONn C w h rn n n 0)) (hon 0 (Nat.zero_le _) 0 h40) ?_
  refine wa_lconst (1) dX10_histories_40 (by decide) ?_
  refine wa_eql (y := lN 1) (rfl) ?_
  refine wa_iconst (1) dX10_histories_41 (by decide) ?_
  refine wa_cVi (x_frac (ONn C w h rn n n 0) 1 1 (by omega) (by decide) (by decide)) vX10_fraction iX10_histories_42 (rfl) rfl rfl rfl (Nat.le_of_ble_eq_true rfl) ⟨by decide, by decide⟩ ?_
  refine wa_iret dX10_histories_45 rfl ?_
  exact ⟨rfl, N1, hF1.x, rfl⟩

theorem x_when_bad1 {G : wm_G} {M : wm_M} (n l : Int32) (hy : wIn n 10 = false) : MD G t_X10_when [wm_r G (96), .int (n), .int (l)] (M) (some (.int (-1))) (M) := by
  refine wm_met (by decide) (Nat.le_of_ble_eq_true rfl) ?_
  show WA G t_X10_when (fun v_ N_ => v_ = some (.int (-1)) ∧ N_ = M) 0 [(0, wm_r G (96)), (1, .int (n)), (2, .int (l))] [] (M)
  refine wa_iload_n dX10_when_0 rfl 1 rfl ?_
  refine wa_cSi (x_areYears n) vX10_areYears iX10_when_1 rfl rfl (Nat.le_of_ble_eq_true rfl) ⟨by decide, by decide⟩ ?_
  refine wa_eqi (y := (0)) (by rw [hy]; rfl) ?_
  refine wa_if_eq 14 dX10_when_4 (by decide) (fun c_4 => ?_) (fun c_4 => absurd c_4 (by decide))
  refine wa_iconst (-1) dX10_when_14 (by decide) ?_
  exact wa_iret dX10_when_15 rfl ⟨congrArg (fun z => some (Value.int z)) (rfl), rfl⟩

theorem x_when_bad2 {G : wm_G} {M : wm_M} (n : Nat) (hy : n < 10) (l : Int32) (hl : wIn l 4 = false) : MD G t_X10_when [wm_r G (96), .int (nI (n)), .int (l)] (M) (some (.int (-1))) (M) := by
  refine wm_met (by decide) (Nat.le_of_ble_eq_true rfl) ?_
  show WA G t_X10_when (fun v_ N_ => v_ = some (.int (-1)) ∧ N_ = M) 0 [(0, wm_r G (96)), (1, .int (nI (n))), (2, .int (l))] [] (M)
  refine wa_iload_n dX10_when_0 rfl 1 rfl ?_
  refine wa_cSi (x_areYears (nI n)) vX10_areYears iX10_when_1 rfl rfl (Nat.le_of_ble_eq_true rfl) ⟨by decide, by decide⟩ ?_
  refine wa_eqi (y := (1)) (by rw [wIn_nI (by omega), decide_eq_true (by omega)]; rfl) ?_
  refine wa_if_eq 14 dX10_when_4 (by decide) (fun c_4 => absurd c_4 (by decide)) (fun c_4 => ?_)
  refine wa_iload_n dX10_when_7 rfl 2 rfl ?_
  refine wa_cSi (x_isLaw l) vX10_isLaw iX10_when_8 rfl rfl (Nat.le_of_ble_eq_true rfl) ⟨by decide, by decide⟩ ?_
  refine wa_eqi (y := (0)) (by rw [hl]; rfl) ?_
  refine wa_if_ne 16 dX10_when_11 (by decide) (fun c_11 => absurd c_11 (by decide)) (fun c_11 => ?_)
  refine wa_iconst (-1) dX10_when_14 (by decide) ?_
  exact wa_iret dX10_when_15 rfl ⟨congrArg (fun z => some (Value.int z)) (rfl), rfl⟩

theorem x_when_no {G : wm_G} {M : wm_M} (n : Nat) (hy : n < 10) (l : Nat) (hl : l < 4) (hz : M.1 109 l = -1) : MD G t_X10_when [wm_r G (96), .int (nI (n)), .int (nI (l))] (M) (some (.int (-3))) (xNote M 1) := by
  refine wm_met (by decide) (Nat.le_of_ble_eq_true rfl) ?_
  show WA G t_X10_when (fun v_ N_ => v_ = some (.int (-3)) ∧ N_ = xNote M 1) 0 [(0, wm_r G (96)), (1, .int (nI (n))), (2, .int (nI (l)))] [] (M)
  refine wa_iload_n dX10_when_0 rfl 1 rfl ?_
  refine wa_cSi (x_areYears (nI n)) vX10_areYears iX10_when_1 rfl rfl (Nat.le_of_ble_eq_true rfl) ⟨by decide, by decide⟩ ?_
  refine wa_eqi (y := (1)) (by rw [wIn_nI (by omega), decide_eq_true (by omega)]; rfl) ?_
  refine wa_if_eq 14 dX10_when_4 (by decide) (fun c_4 => absurd c_4 (by decide)) (fun c_4 => ?_)
  refine wa_iload_n dX10_when_7 rfl 2 rfl ?_
  refine wa_cSi (x_isLaw (nI l)) vX10_isLaw iX10_when_8 rfl rfl (Nat.le_of_ble_eq_true rfl) ⟨by decide, by decide⟩ ?_
  refine wa_eqi (y := (1)) (by rw [wIn_nI (by omega), decide_eq_true (by omega)]; rfl) ?_
  refine wa_if_ne 16 dX10_when_11 (by decide) (fun c_11 => ?_) (fun c_11 => absurd c_11 (by decide))
  refine wa_aload_n dX10_when_16 rfl 0 rfl ?_
  refine wa_getr gX10_when_17 (rfl) rfl ?_
  refine wa_iload_n dX10_when_20 rfl 2 rfl ?_
  refine wa_ialdN (e := l) dX10_when_21 (rfl) (by omega) (by decide) ?_
  refine wa_eqi (y := (-1)) (hz) ?_
  refine wa_if_ge 31 dX10_when_22 (by decide) (fun c_22 => absurd c_22 (by decide)) (fun c_22 => ?_)
  refine wa_aload_n dX10_when_25 rfl 0 rfl ?_
  refine wa_iconst (1) dX10_when_26 (by decide) ?_
  refine wa_cVi (x_meets 1 (by decide) (by decide)) vX10_meets iX10_when_27 (rfl) rfl rfl rfl (Nat.le_of_ble_eq_true rfl) ⟨by decide, by decide⟩ ?_
  exact wa_iret dX10_when_30 rfl ⟨congrArg (fun z => some (Value.int z)) (rfl), rfl⟩

theorem x_when_nt {G : wm_G} {M : wm_M} (C : wm_M) (w h rn : Nat) (hX : xStn C M w h) (hW : TW C w h) (hRO : RecOk C w h rn) (hE : xEng C M w h rn) (n : Nat) (hy : n < 10) (l : Nat) (hl : l < 4) (zl : Nat) (hzl : M.1 109 l = nI zl) (hzl9 : zl ≤ 3) (h0 : ONn C w h rn n n 0 = 0) : MA G t_X10_when [wm_r G (96), .int (nI (n)), .int (nI (l))] (M) (fun v N => v = some (.int (-3)) ∧ ∃ O, FrX M O ∧ N = xNote O 4) := by
  obtain ⟨x10, x11, x12, x103, x104, x105, x106⟩ := id hX
  have hn6 := TW_n hW
  have hw3 := hW.2.2.1
  have hh2 := hW.2.2.2
  have h4 := p4_le hn6
  have h40 : 0 < 4 ^ (w * h) := Nat.pow_pos (by decide)
  have hon9 := ON_le (C := C) (rn := rn) (n := n) (d := n) (t := 0) hn6 (by omega) h40
  refine wm_met (by decide) (Nat.le_of_ble_eq_true rfl) ?_
  show WA G t_X10_when (fun v N => v = some (.int (-3)) ∧ ∃ O, FrX M O ∧ N = xNote O 4) 0 [(0, wm_r G (96)), (1, .int (nI (n))), (2, .int (nI (l)))] [] (M)
  refine wa_iload_n dX10_when_0 rfl 1 rfl ?_
  refine wa_cSi (x_areYears (nI n)) vX10_areYears iX10_when_1 rfl rfl (Nat.le_of_ble_eq_true rfl) ⟨by decide, by decide⟩ ?_
  refine wa_eqi (y := (1)) (by rw [wIn_nI (by omega), decide_eq_true (by omega)]; rfl) ?_
  refine wa_if_eq 14 dX10_when_4 (by decide) (fun c_4 => absurd c_4 (by decide)) (fun c_4 => ?_)
  refine wa_iload_n dX10_when_7 rfl 2 rfl ?_
  refine wa_cSi (x_isLaw (nI l)) vX10_isLaw iX10_when_8 rfl rfl (Nat.le_of_ble_eq_true rfl) ⟨by decide, by decide⟩ ?_
  refine wa_eqi (y := (1)) (by rw [wIn_nI (by omega), decide_eq_true (by omega)]; rfl) ?_
  refine wa_if_ne 16 dX10_when_11 (by decide) (fun c_11 => ?_) (fun c_11 => absurd c_11 (by decide))
  refine wa_aload_n dX10_when_16 rfl 0 rfl ?_
  refine wa_getr gX10_when_17 (rfl) rfl ?_
  refine wa_iload_n dX10_when_20 rfl 2 rfl ?_
  refine wa_ialdN (e := l) dX10_when_21 (rfl) (by omega) (by decide) ?_
  refine wa_eqi (y := (nI (zl))) (hzl) ?_
  refine wa_if_geN (a := zl) 31 dX10_when_22 (by decide) (by omega) (fun c_22 => ?_) (fun c_22 => absurd c_22 (by omega))
  refine wa_aload_n dX10_when_31 rfl 0 rfl ?_
  refine wa_iload_n dX10_when_32 rfl 1 rfl ?_
  refine wa_callV (x_layHist C w h rn hX hW hRO hE n (by omega)) vX10_layHistories iX10_when_33 (rfl) rfl rfl rfl (Nat.le_of_ble_eq_true rfl) ⟨by decide, by decide⟩ (fun v_ N1 h_ => ?_)
  obtain ⟨rfl, hF1, hfo, hon⟩ := h_
  show WA G t_X10_when (fun v N => v = some (.int (-3)) ∧ ∃ O, FrX M O ∧ N = xNote O 4) 36 [(0, wm_r G (96)), (1, .int (nI (n))), (2, .int (nI (l)))] [] (N1)
  refine wa_aload_n dX10_when_36 rfl 0 rfl ?_
  refine wa_getr gX10_when_37 (rfl) rfl ?_
  refine wa_iconst (0) dX10_when_40 (by decide) ?_
  refine wa_laldN (e := 0) dX10_when_41 (rfl) (by omega) (by decide) ?_
  refine wa_eql (y := lN (ONn C w h rn n n 0)) (hon 0 (Nat.zero_le _) 0 h40) ?_
  refine wa_lconst (0) dX10_when_42 (by decide) ?_
  refine wa_lcmp dX10_when_43 ?_
  refine wa_if_ne 53 dX10_when_44 (by decide) (fun c_44 => absurd ((lg_cmp0 (by omega)).mpr h0) c_44) (fun c_44 => ?_)
  refine wa_aload_n dX10_when_47 rfl 0 rfl ?_
  refine wa_iconst (4) dX10_when_48 (by decide) ?_
  refine wa_cVi (x_meets 4 (by decide) (by decide)) vX10_meets iX10_when_49 (rfl) rfl rfl rfl (Nat.le_of_ble_eq_true rfl) ⟨by decide, by decide⟩ ?_
  refine wa_iret dX10_when_52 rfl ?_
  exact ⟨rfl, N1, hF1.x, rfl⟩

set_option maxHeartbeats 4000000 in
theorem x_when_ok {G : wm_G} {M : wm_M} (C : wm_M) (w h rn : Nat) (hX : xStn C M w h) (hW : TW C w h) (hRO : RecOk C w h rn) (hE : xEng C M w h rn) (hXL : xLaw C M) (hCL : cLaw C) (hCS : cStn C (w * h)) (n : Nat) (hy : n < 10) (l : Nat) (hl : l < 4) (zl : Nat) (hzl : M.1 109 l = nI zl) (hzl9 : zl ≤ 3) (h0 : 0 < ONn C w h rn n n 0) : MA G t_X10_when [wm_r G (96), .int (nI (n)), .int (nI (l))] (M) (fun v N => v = some (.int (nI (wBits (fun y => alR C w h rn n l y (4 ^ (w * h))) (n + 1)))) ∧ ∃ O, FrX M O ∧ N = xTell O (nI (wBits (fun y2 => decide (y2 < n + 1) && smR C w h rn n l y2 (4 ^ (w * h))) 10))) := by
  obtain ⟨x10, x11, x12, x103, x104, x105, x106⟩ := id hX
  have hn6 := TW_n hW
  have hw3 := hW.2.2.1
  have hh2 := hW.2.2.2
  have h4 := p4_le hn6
  have h40 : 0 < 4 ^ (w * h) := Nat.pow_pos (by decide)
  have hon9 := ON_le (C := C) (rn := rn) (n := n) (d := n) (t := 0) hn6 (by omega) h40
  refine wm_met (by decide) (Nat.le_of_ble_eq_true rfl) ?_
  show WA G t_X10_when (fun v N => v = some (.int (nI (wBits (fun y => alR C w h rn n l y (4 ^ (w * h))) (n + 1)))) ∧ ∃ O, FrX M O ∧ N = xTell O (nI (wBits (fun y2 => decide (y2 < n + 1) && smR C w h rn n l y2 (4 ^ (w * h))) 10))) 0 [(0, wm_r G (96)), (1, .int (nI (n))), (2, .int (nI (l)))] [] (M)
  refine wa_iload_n dX10_when_0 rfl 1 rfl ?_
  refine wa_cSi (x_areYears (nI n)) vX10_areYears iX10_when_1 rfl rfl (Nat.le_of_ble_eq_true rfl) ⟨by decide, by decide⟩ ?_
  refine wa_eqi (y := (1)) (by rw [wIn_nI (by omega), decide_eq_true (by omega)]; rfl) ?_
  refine wa_if_eq 14 dX10_when_4 (by decide) (fun c_4 => absurd c_4 (by decide)) (fun c_4 => ?_)
  refine wa_iload_n dX10_when_7 rfl 2 rfl ?_
  refine wa_cSi (x_isLaw (nI l)) vX10_isLaw iX10_when_8 rfl rfl (Nat.le_of_ble_eq_true rfl) ⟨by decide, by decide⟩ ?_
  refine wa_eqi (y := (1)) (by rw [wIn_nI (by omega), decide_eq_true (by omega)]; rfl) ?_
  refine wa_if_ne 16 dX10_when_11 (by decide) (fun c_11 => ?_) (fun c_11 => absurd c_11 (by decide))
  refine wa_aload_n dX10_when_16 rfl 0 rfl ?_
  refine wa_getr gX10_when_17 (rfl) rfl ?_
  refine wa_iload_n dX10_when_20 rfl 2 rfl ?_
  refine wa_ialdN (e := l) dX10_when_21 (rfl) (by omega) (by decide) ?_
  refine wa_eqi (y := (nI (zl))) (hzl) ?_
  refine wa_if_geN (a := zl) 31 dX10_when_22 (by decide) (by omega) (fun c_22 => ?_) (fun c_22 => absurd c_22 (by omega))
  refine wa_aload_n dX10_when_31 rfl 0 rfl ?_
  refine wa_iload_n dX10_when_32 rfl 1 rfl ?_
  refine wa_callV (x_layHist C w h rn hX hW hRO hE n (by omega)) vX10_layHistories iX10_when_33 (rfl) rfl rfl rfl (Nat.le_of_ble_eq_true rfl) ⟨by decide, by decide⟩ (fun v_ N1 h_ => ?_)
  obtain ⟨rfl, hF1, hfo, hon⟩ := h_
  show WA G t_X10_when (fun v N => v = some (.int (nI (wBits (fun y => alR C w h rn n l y (4 ^ (w * h))) (n + 1)))) ∧ ∃ O, FrX M O ∧ N = xTell O (nI (wBits (fun y2 => decide (y2 < n + 1) && smR C w h rn n l y2 (4 ^ (w * h))) 10))) 36 [(0, wm_r G (96)), (1, .int (nI (n))), (2, .int (nI (l)))] [] (N1)
  refine wa_aload_n dX10_when_36 rfl 0 rfl ?_
  refine wa_getr gX10_when_37 (rfl) rfl ?_
  refine wa_iconst (0) dX10_when_40 (by decide) ?_
  refine wa_laldN (e := 0) dX10_when_41 (rfl) (by omega) (by decide) ?_
  refine wa_eql (y := lN (ONn C w h rn n n 0)) (hon 0 (Nat.zero_le _) 0 h40) ?_
  refine wa_lconst (0) dX10_when_42 (by decide) ?_
  refine wa_lcmp dX10_when_43 ?_
  refine wa_if_ne 53 dX10_when_44 (by decide) (fun c_44 => ?_) (fun c_44 => absurd ((lg_cmp0 (by omega)).mp c_44) (by omega))
  refine wa_aload_n dX10_when_53 rfl 0 rfl ?_
  refine wa_iconst (1) dX10_when_54 (by decide) ?_
  refine wa_eqi (y := (wB (true))) (rfl) ?_
  refine wa_callV (x_layStands (M := N1) C w h (hF1.stn hX) hW (hF1.law hXL) hCL hCS true (fun _ => true) (fun t ht => ⟨fun _ => rfl, fun q => (by cases q)⟩)) vX10_layStands iX10_when_55 (rfl) rfl rfl rfl (Nat.le_of_ble_eq_true rfl) ⟨by decide, by decide⟩ (fun v_ N2 h_ => ?_)
  obtain ⟨rfl, hF2, hst⟩ := h_
  show WA G t_X10_when (fun v N => v = some (.int (nI (wBits (fun y => alR C w h rn n l y (4 ^ (w * h))) (n + 1)))) ∧ ∃ O, FrX M O ∧ N = xTell O (nI (wBits (fun y2 => decide (y2 < n + 1) && smR C w h rn n l y2 (4 ^ (w * h))) 10))) 58 [(0, wm_r G (96)), (1, .int (nI (n))), (2, .int (nI (l)))] [] (N2)
  have hxx2 : FrX M N2 := hF1.x.tr hF2.n.x
  have h12 : N2.1 96 12 = nI (w * h) := by rw [hF2.1 96 (by decide) (by decide), hF1.1 96 (by decide)]; exact x12
  have hX2 := hF2.n.stn (hF1.stn hX)
  have h115 : ∀ t, t < 4 ^ (w * h) → N2.1 115 t = nI (stdN C w h t) := fun t ht => hst t ht rfl
  have hon2 : ∀ y, y ≤ n → ∀ t, t < 4 ^ (w * h) → N2.2.1 121 (4096 * y + t) = lN (ONn C w h rn n (n - y) t) := fun y hy t ht => by rw [hF2.2]; exact hon y hy t ht
  have hfo2 : ∀ y, y ≤ n → ∀ t, t < 4 ^ (w * h) → N2.2.1 120 (4096 * y + t) = lN (FWn C w h rn y t) := fun y hy t ht => by rw [hF2.2]; exact hfo y hy t ht
  refine wa_iconst (0) dX10_when_58 (by decide) ?_
  refine wa_eqi (y := (nI (wBits (fun y => alR C w h rn n l y (4 ^ (w * h))) 0))) (rfl) ?_
  refine wa_istore_n [(3, .int (nI (wBits (fun y => alR C w h rn n l y (4 ^ (w * h))) 0))), (0, wm_r G (96)), (1, .int (nI (n))), (2, .int (nI (l)))] dX10_when_59 rfl (by decide) rfl ?_
  refine wa_iconst (0) dX10_when_60 (by decide) ?_
  refine wa_eqi (y := (nI (wBits (fun y2 => decide (y2 < 0) && smR C w h rn n l y2 (4 ^ (w * h))) 10))) (congrArg nI ((wBits_z (fun i _ => by rw [decide_eq_false (by omega)]; rfl)).symm)) ?_
  refine wa_istore [(4, .int (nI (wBits (fun y2 => decide (y2 < 0) && smR C w h rn n l y2 (4 ^ (w * h))) 10))), (3, .int (nI (wBits (fun y => alR C w h rn n l y (4 ^ (w * h))) 0))), (0, wm_r G (96)), (1, .int (nI (n))), (2, .int (nI (l)))] dX10_when_61 (by decide) rfl ?_
  refine wa_iconst (0) dX10_when_63 (by decide) ?_
  refine wa_istore [(5, .int (0)), (4, .int (nI (wBits (fun y2 => decide (y2 < 0) && smR C w h rn n l y2 (4 ^ (w * h))) 10))), (3, .int (nI (wBits (fun y => alR C w h rn n l y (4 ^ (w * h))) 0))), (0, wm_r G (96)), (1, .int (nI (n))), (2, .int (nI (l)))] dX10_when_64 (by decide) rfl ?_
  have L_66 : ∀ (n_ : Nat) (y : Nat), (n + 1 - y) < n_ → (y ≤ n + 1) → WA G t_X10_when (fun v N => v = some (.int (nI (wBits (fun y => alR C w h rn n l y (4 ^ (w * h))) (n + 1)))) ∧ ∃ O, FrX M O ∧ N = xTell O (nI (wBits (fun y2 => decide (y2 < n + 1) && smR C w h rn n l y2 (4 ^ (w * h))) 10))) 66 [(5, .int (nI (y))), (4, .int (nI (wBits (fun y2 => decide (y2 < y) && smR C w h rn n l y2 (4 ^ (w * h))) 10))), (3, .int (nI (wBits (fun y => alR C w h rn n l y (4 ^ (w * h))) y))), (0, wm_r G (96)), (1, .int (nI (n))), (2, .int (nI (l)))] [] (N2) := by
    intro n_
    induction n_ with
    | zero => intro y h_; exact absurd h_ (Nat.not_lt_zero _)
    | succ n_ ih_66 =>
      intro y h_ hyn
      refine wa_iload dX10_when_66 0 rfl ?_
      refine wa_iload_n dX10_when_68 rfl 4 rfl ?_
      refine wa_icmp_gtN (a := y) (b := n) 185 dX10_when_69 (by decide) (by omega) (by omega) (fun c_69 => ?_) (fun c_69 => ?_)
      · refine wa_aload_n dX10_when_185 rfl 3 rfl ?_
        refine wa_iload dX10_when_186 1 rfl ?_
        refine wa_eqi (y := (nI (wBits (fun y2 => decide (y2 < n + 1) && smR C w h rn n l y2 (4 ^ (w * h))) 10))) (by rw [show y = n + 1 by omega]) ?_
        refine wa_iload_n dX10_when_188 rfl 2 rfl ?_
        refine wa_eqi (y := (nI (wBits (fun y => alR C w h rn n l y (4 ^ (w * h))) (n + 1)))) (by rw [show y = n + 1 by omega]) ?_
        refine wa_cVi (x_tells (nI (wBits (fun y2 => decide (y2 < n + 1) && smR C w h rn n l y2 (4 ^ (w * h))) 10)) (nI (wBits (fun y => alR C w h rn n l y (4 ^ (w * h))) (n + 1)))) vX10_tells iX10_when_189 (rfl) rfl rfl rfl (Nat.le_of_ble_eq_true rfl) ⟨by decide, by decide⟩ ?_
        refine wa_iret dX10_when_192 rfl ?_
        exact ⟨rfl, N2, hxx2, rfl⟩
      · refine wa_iconst (1) dX10_when_72 (by decide) ?_
        refine wa_eqi (y := (wB (alR C w h rn n l y 0))) (rfl) ?_
        refine wa_istore [(6, .int (wB (alR C w h rn n l y 0))), (5, .int (nI (y))), (4, .int (nI (wBits (fun y2 => decide (y2 < y) && smR C w h rn n l y2 (4 ^ (w * h))) 10))), (3, .int (nI (wBits (fun y => alR C w h rn n l y (4 ^ (w * h))) y))), (0, wm_r G (96)), (1, .int (nI (n))), (2, .int (nI (l)))] dX10_when_73 (by decide) rfl ?_
        refine wa_iconst (0) dX10_when_75 (by decide) ?_
        refine wa_istore [(7, .int (0)), (6, .int (wB (alR C w h rn n l y 0))), (5, .int (nI (y))), (4, .int (nI (wBits (fun y2 => decide (y2 < y) && smR C w h rn n l y2 (4 ^ (w * h))) 10))), (3, .int (nI (wBits (fun y => alR C w h rn n l y (4 ^ (w * h))) y))), (0, wm_r G (96)), (1, .int (nI (n))), (2, .int (nI (l)))] dX10_when_76 (by decide) rfl ?_
        have L_78 : ∀ (n_ : Nat) (t : Nat), (4 ^ (w * h) - t) < n_ → (t ≤ 4 ^ (w * h)) → WA G t_X10_when (fun v N => v = some (.int (nI (wBits (fun y => alR C w h rn n l y (4 ^ (w * h))) (n + 1)))) ∧ ∃ O, FrX M O ∧ N = xTell O (nI (wBits (fun y2 => decide (y2 < n + 1) && smR C w h rn n l y2 (4 ^ (w * h))) 10))) 78 [(7, .int (nI (t))), (6, .int (wB (alR C w h rn n l y t))), (5, .int (nI (y))), (4, .int (nI (wBits (fun y2 => if y2 = y then smR C w h rn n l y (t) else (decide (y2 < y) && smR C w h rn n l y2 (4 ^ (w * h)))) 10))), (3, .int (nI (wBits (fun y => alR C w h rn n l y (4 ^ (w * h))) y))), (0, wm_r G (96)), (1, .int (nI (n))), (2, .int (nI (l)))] [] (N2) := by
          intro n_
          induction n_ with
          | zero => intro t h_; exact absurd h_ (Nat.not_lt_zero _)
          | succ n_ ih_78 =>
            intro t h_ ht
            refine wa_iload dX10_when_78 0 rfl ?_
            refine wa_aload_n dX10_when_80 rfl 5 rfl ?_
            refine wa_cVi (x_stateMany (w * h) hn6 h12) vX10_stateMany iX10_when_81 (rfl) rfl rfl rfl (Nat.le_of_ble_eq_true rfl) ⟨by decide, by decide⟩ ?_
            refine wa_icmp_geN (a := t) (b := 4 ^ (w * h)) 163 dX10_when_84 (by decide) (by omega) (by omega) (fun c_84 => ?_) (fun c_84 => ?_)
            · refine wa_iload_n dX10_when_163 rfl 4 rfl ?_
              refine wa_iload dX10_when_164 1 rfl ?_
              refine wa_if_eqB 176 dX10_when_166 (by decide) (fun (c_166 : (alR C w h rn n l y t) = false) => ?_) (fun (c_166 : (alR C w h rn n l y t) = true) => ?_)
              · refine wa_iconst (0) dX10_when_176 (by decide) ?_
                refine wa_ior dX10_when_177 ?_
                refine wa_eqi (y := (nI (wBits (fun y => alR C w h rn n l y (4 ^ (w * h))) (y + 1)))) (by rw [show t = 4 ^ (w * h) by omega] at c_166; first | exact wBits_t (p := fun y => alR C w h rn n l y (4 ^ (w * h))) c_166 (by omega) | exact Int32.or_zero.trans (wBits_f (p := fun y => alR C w h rn n l y (4 ^ (w * h))) c_166)) ?_
                refine wa_istore_n [(3, .int (nI (wBits (fun y => alR C w h rn n l y (4 ^ (w * h))) (y + 1)))), (7, .int (nI (t))), (6, .int (wB (alR C w h rn n l y t))), (5, .int (nI (y))), (4, .int (nI (wBits (fun y2 => if y2 = y then smR C w h rn n l y (t) else (decide (y2 < y) && smR C w h rn n l y2 (4 ^ (w * h)))) 10))), (0, wm_r G (96)), (1, .int (nI (n))), (2, .int (nI (l)))] dX10_when_178 rfl (by decide) rfl ?_
                refine wa_iinc ((nI (y + 1))) [(5, .int (nI (y + 1))), (3, .int (nI (wBits (fun y => alR C w h rn n l y (4 ^ (w * h))) (y + 1)))), (7, .int (nI (t))), (6, .int (wB (alR C w h rn n l y t))), (4, .int (nI (wBits (fun y2 => if y2 = y then smR C w h rn n l y (t) else (decide (y2 < y) && smR C w h rn n l y2 (4 ^ (w * h)))) 10))), (0, wm_r G (96)), (1, .int (nI (n))), (2, .int (nI (l)))] dX10_when_179 3 rfl (nI_inc _) (by decide) rfl ?_
                refine wa_goto 66 dX10_when_182 (by decide) ?_
                refine wa_sub [0, 4, 1, 5, 6, 7] rfl ?_
                rw [show wBits (fun y2 => if y2 = y then smR C w h rn n l y (t) else (decide (y2 < y) && smR C w h rn n l y2 (4 ^ (w * h)))) 10 = wBits (fun y2 => decide (y2 < y + 1) && smR C w h rn n l y2 (4 ^ (w * h))) 10 by rw [show t = 4 ^ (w * h) by omega]; exact wBits_cong (fun j _ => by by_cases q : j = y; (subst q; rw [if_pos rfl, decide_eq_true (by omega)]; rfl); (rw [if_neg q]; by_cases q2 : j < y; (rw [decide_eq_true q2, decide_eq_true (by omega)]); (rw [decide_eq_false q2, decide_eq_false (by omega)])))]
                exact ih_66 (y + 1) (by omega) (by omega)
              · refine wa_iconst (1) dX10_when_169 (by decide) ?_
                refine wa_iload dX10_when_170 2 rfl ?_
                refine wa_ishl dX10_when_172 ?_
                refine wa_goto 177 dX10_when_173 (by decide) ?_
                refine wa_ior dX10_when_177 ?_
                refine wa_eqi (y := (nI (wBits (fun y => alR C w h rn n l y (4 ^ (w * h))) (y + 1)))) (by rw [show t = 4 ^ (w * h) by omega] at c_166; first | exact wBits_t (p := fun y => alR C w h rn n l y (4 ^ (w * h))) c_166 (by omega) | exact Int32.or_zero.trans (wBits_f (p := fun y => alR C w h rn n l y (4 ^ (w * h))) c_166)) ?_
                refine wa_istore_n [(3, .int (nI (wBits (fun y => alR C w h rn n l y (4 ^ (w * h))) (y + 1)))), (7, .int (nI (t))), (6, .int (wB (alR C w h rn n l y t))), (5, .int (nI (y))), (4, .int (nI (wBits (fun y2 => if y2 = y then smR C w h rn n l y (t) else (decide (y2 < y) && smR C w h rn n l y2 (4 ^ (w * h)))) 10))), (0, wm_r G (96)), (1, .int (nI (n))), (2, .int (nI (l)))] dX10_when_178 rfl (by decide) rfl ?_
                refine wa_iinc ((nI (y + 1))) [(5, .int (nI (y + 1))), (3, .int (nI (wBits (fun y => alR C w h rn n l y (4 ^ (w * h))) (y + 1)))), (7, .int (nI (t))), (6, .int (wB (alR C w h rn n l y t))), (4, .int (nI (wBits (fun y2 => if y2 = y then smR C w h rn n l y (t) else (decide (y2 < y) && smR C w h rn n l y2 (4 ^ (w * h)))) 10))), (0, wm_r G (96)), (1, .int (nI (n))), (2, .int (nI (l)))] dX10_when_179 3 rfl (nI_inc _) (by decide) rfl ?_
                refine wa_goto 66 dX10_when_182 (by decide) ?_
                refine wa_sub [0, 4, 1, 5, 6, 7] rfl ?_
                rw [show wBits (fun y2 => if y2 = y then smR C w h rn n l y (t) else (decide (y2 < y) && smR C w h rn n l y2 (4 ^ (w * h)))) 10 = wBits (fun y2 => decide (y2 < y + 1) && smR C w h rn n l y2 (4 ^ (w * h))) 10 by rw [show t = 4 ^ (w * h) by omega]; exact wBits_cong (fun j _ => by by_cases q : j = y; (subst q; rw [if_pos rfl, decide_eq_true (by omega)]; rfl); (rw [if_neg q]; by_cases q2 : j < y; (rw [decide_eq_true q2, decide_eq_true (by omega)]); (rw [decide_eq_false q2, decide_eq_false (by omega)])))]
                exact ih_66 (y + 1) (by omega) (by omega)
            · refine wa_aload_n dX10_when_87 rfl 5 rfl ?_
              refine wa_getr gX10_when_88 (rfl) rfl ?_
              refine wa_iload dX10_when_91 2 rfl ?_
              refine wa_iload dX10_when_93 0 rfl ?_
              refine wa_cSi (x_spot y t) vX10_spot iX10_when_95 rfl rfl (Nat.le_of_ble_eq_true rfl) ⟨by decide, by decide⟩ ?_
              refine wa_laldN (e := 4096 * y + t) dX10_when_98 (rfl) (by omega) (by decide) ?_
              refine wa_eql (y := lN (ONn C w h rn n (n - y) t)) (hon2 y (by omega) t (by omega)) ?_
              have hb1 := ON_le (C := C) (rn := rn) (n := n) (d := n - y) (t := t) hn6 (by omega) (by omega)
              refine wa_lconst (0) dX10_when_99 (by decide) ?_
              refine wa_lcmp dX10_when_100 ?_
              refine wa_if_le 157 dX10_when_101 (by decide) (fun c_101 => ?_) (fun c_101 => ?_)
              · have hlv : lvR C w h rn n y t = false := by unfold lvR; exact decide_eq_false (by have := (lg_0 (by omega)).mp c_101; omega)
                refine wa_iinc ((nI (t + 1))) [(7, .int (nI (t + 1))), (6, .int (wB (alR C w h rn n l y t))), (5, .int (nI (y))), (4, .int (nI (wBits (fun y2 => if y2 = y then smR C w h rn n l y (t) else (decide (y2 < y) && smR C w h rn n l y2 (4 ^ (w * h)))) 10))), (3, .int (nI (wBits (fun y => alR C w h rn n l y (4 ^ (w * h))) y))), (0, wm_r G (96)), (1, .int (nI (n))), (2, .int (nI (l)))] dX10_when_157 0 rfl (nI_inc _) (by decide) rfl ?_
                refine wa_goto 78 dX10_when_160 (by decide) ?_
                first | rw [show alR C w h rn n l y t = alR C w h rn n l y (t + 1) by unfold alR; rw [wAll_s, hlv]; simp, show wBits (fun y2 => if y2 = y then smR C w h rn n l y (t) else (decide (y2 < y) && smR C w h rn n l y2 (4 ^ (w * h)))) 10 = wBits (fun y2 => if y2 = y then smR C w h rn n l y (t + 1) else (decide (y2 < y) && smR C w h rn n l y2 (4 ^ (w * h)))) 10 from wBits_cong (fun j _ => by by_cases q : j = y; (subst q; rw [if_pos rfl, if_pos rfl]; unfold smR; rw [wAny_s, hlv]; simp); (rw [if_neg q, if_neg q]))] | skip
                exact ih_78 (t + 1) (by omega) (by omega)
              · have hlv : lvR C w h rn n y t = true := by unfold lvR; exact decide_eq_true (Nat.pos_of_ne_zero (fun q => c_101 ((lg_0 (by omega)).mpr q)))
                refine wa_iload dX10_when_104 1 rfl ?_
                refine wa_if_eqB 127 dX10_when_106 (by decide) (fun (c_106 : (alR C w h rn n l y t) = false) => ?_) (fun (c_106 : (alR C w h rn n l y t) = true) => ?_)
                · refine wa_iconst (0) dX10_when_127 (by decide) ?_
                  refine wa_eqi (y := (wB (alR C w h rn n l y (t + 1)))) (by unfold alR; rw [wAll_s, hlv]; first | (rw [show wAll (fun t2 => !lvR C w h rn n y t2 || ctF C w h l t2) t = _ from c_106]; rfl) | (rw [show wAll (fun t2 => !lvR C w h rn n y t2 || ctF C w h l t2) t = _ from c_106, c_120]; rfl)) ?_
                  refine wa_istore [(6, .int (wB (alR C w h rn n l y (t + 1)))), (7, .int (nI (t))), (5, .int (nI (y))), (4, .int (nI (wBits (fun y2 => if y2 = y then smR C w h rn n l y (t) else (decide (y2 < y) && smR C w h rn n l y2 (4 ^ (w * h)))) 10))), (3, .int (nI (wBits (fun y => alR C w h rn n l y (4 ^ (w * h))) y))), (0, wm_r G (96)), (1, .int (nI (n))), (2, .int (nI (l)))] dX10_when_128 (by decide) rfl ?_
                  have L_130 : WA G t_X10_when (fun v N => v = some (.int (nI (wBits (fun y => alR C w h rn n l y (4 ^ (w * h))) (n + 1)))) ∧ ∃ O, FrX M O ∧ N = xTell O (nI (wBits (fun y2 => decide (y2 < n + 1) && smR C w h rn n l y2 (4 ^ (w * h))) 10))) 130 [(6, .int (wB (alR C w h rn n l y (t + 1)))), (7, .int (nI (t))), (5, .int (nI (y))), (4, .int (nI (wBits (fun y2 => if y2 = y then smR C w h rn n l y (t) else (decide (y2 < y) && smR C w h rn n l y2 (4 ^ (w * h)))) 10))), (3, .int (nI (wBits (fun y => alR C w h rn n l y (4 ^ (w * h))) y))), (0, wm_r G (96)), (1, .int (nI (n))), (2, .int (nI (l)))] [] (N2) := by
                    refine wa_iload dX10_when_130 3 rfl ?_
                    refine wa_aload_n dX10_when_132 rfl 5 rfl ?_
                    refine wa_getr gX10_when_133 (rfl) rfl ?_
                    refine wa_iload dX10_when_136 1 rfl ?_
                    refine wa_ialdN (e := t) dX10_when_138 (rfl) (by omega) (by decide) ?_
                    refine wa_eqi (y := (nI (stdN C w h t))) (h115 t (by omega)) ?_
                    refine wa_iload_n dX10_when_139 rfl 7 rfl ?_
                    refine wa_cSi (x_has (stdN C w h t) l (by have := stdN_lt C w h t; omega) (by omega)) vX10_has iX10_when_140 rfl rfl (Nat.le_of_ble_eq_true rfl) ⟨by decide, by decide⟩ ?_
                    refine wa_eqi (y := (wB (ctF C w h l t))) (congrArg wB (by unfold stdN; rw [wBits_bit, decide_eq_true hl]; rfl)) ?_
                    refine wa_if_eqB 153 dX10_when_143 (by decide) (fun (c_143 : (ctF C w h l t) = false) => ?_) (fun (c_143 : (ctF C w h l t) = true) => ?_)
                    · refine wa_iconst (0) dX10_when_153 (by decide) ?_
                      refine wa_ior dX10_when_154 ?_
                      refine wa_eqi (y := (nI (wBits (fun y2 => if y2 = y then smR C w h rn n l y (t + 1) else (decide (y2 < y) && smR C w h rn n l y2 (4 ^ (w * h)))) 10))) (by first | exact wBits_orI (k := y) (by omega) (by decide) (fun j _ => by by_cases q : j = y; (subst q; rw [if_pos rfl, if_pos rfl]; unfold smR; rw [wAny_s, hlv, c_143]; simp); (rw [if_neg q, if_neg q, decide_eq_false q, Bool.or_false])) | exact Int32.or_zero.trans (congrArg nI (wBits_cong (fun j _ => by by_cases q : j = y; (subst q; rw [if_pos rfl, if_pos rfl]; unfold smR; rw [wAny_s, c_143]; simp); (rw [if_neg q, if_neg q]))))) ?_
                      refine wa_istore [(4, .int (nI (wBits (fun y2 => if y2 = y then smR C w h rn n l y (t + 1) else (decide (y2 < y) && smR C w h rn n l y2 (4 ^ (w * h)))) 10))), (6, .int (wB (alR C w h rn n l y (t + 1)))), (7, .int (nI (t))), (5, .int (nI (y))), (3, .int (nI (wBits (fun y => alR C w h rn n l y (4 ^ (w * h))) y))), (0, wm_r G (96)), (1, .int (nI (n))), (2, .int (nI (l)))] dX10_when_155 (by decide) rfl ?_
                      refine wa_iinc ((nI (t + 1))) [(7, .int (nI (t + 1))), (4, .int (nI (wBits (fun y2 => if y2 = y then smR C w h rn n l y (t + 1) else (decide (y2 < y) && smR C w h rn n l y2 (4 ^ (w * h)))) 10))), (6, .int (wB (alR C w h rn n l y (t + 1)))), (5, .int (nI (y))), (3, .int (nI (wBits (fun y => alR C w h rn n l y (4 ^ (w * h))) y))), (0, wm_r G (96)), (1, .int (nI (n))), (2, .int (nI (l)))] dX10_when_157 2 rfl (nI_inc _) (by decide) rfl ?_
                      refine wa_goto 78 dX10_when_160 (by decide) ?_
                      refine wa_sub [0, 2, 3, 1, 4, 5, 6, 7] rfl ?_
                      first | rw [show alR C w h rn n l y t = alR C w h rn n l y (t + 1) by unfold alR; rw [wAll_s, hlv]; simp, show wBits (fun y2 => if y2 = y then smR C w h rn n l y (t) else (decide (y2 < y) && smR C w h rn n l y2 (4 ^ (w * h)))) 10 = wBits (fun y2 => if y2 = y then smR C w h rn n l y (t + 1) else (decide (y2 < y) && smR C w h rn n l y2 (4 ^ (w * h)))) 10 from wBits_cong (fun j _ => by by_cases q : j = y; (subst q; rw [if_pos rfl, if_pos rfl]; unfold smR; rw [wAny_s, hlv]; simp); (rw [if_neg q, if_neg q]))] | skip
                      exact ih_78 (t + 1) (by omega) (by omega)
                    · refine wa_iconst (1) dX10_when_146 (by decide) ?_
                      refine wa_iload dX10_when_147 2 rfl ?_
                      refine wa_ishl dX10_when_149 ?_
                      refine wa_goto 154 dX10_when_150 (by decide) ?_
                      refine wa_ior dX10_when_154 ?_
                      refine wa_eqi (y := (nI (wBits (fun y2 => if y2 = y then smR C w h rn n l y (t + 1) else (decide (y2 < y) && smR C w h rn n l y2 (4 ^ (w * h)))) 10))) (by first | exact wBits_orI (k := y) (by omega) (by decide) (fun j _ => by by_cases q : j = y; (subst q; rw [if_pos rfl, if_pos rfl]; unfold smR; rw [wAny_s, hlv, c_143]; simp); (rw [if_neg q, if_neg q, decide_eq_false q, Bool.or_false])) | exact Int32.or_zero.trans (congrArg nI (wBits_cong (fun j _ => by by_cases q : j = y; (subst q; rw [if_pos rfl, if_pos rfl]; unfold smR; rw [wAny_s, c_143]; simp); (rw [if_neg q, if_neg q]))))) ?_
                      refine wa_istore [(4, .int (nI (wBits (fun y2 => if y2 = y then smR C w h rn n l y (t + 1) else (decide (y2 < y) && smR C w h rn n l y2 (4 ^ (w * h)))) 10))), (6, .int (wB (alR C w h rn n l y (t + 1)))), (7, .int (nI (t))), (5, .int (nI (y))), (3, .int (nI (wBits (fun y => alR C w h rn n l y (4 ^ (w * h))) y))), (0, wm_r G (96)), (1, .int (nI (n))), (2, .int (nI (l)))] dX10_when_155 (by decide) rfl ?_
                      refine wa_iinc ((nI (t + 1))) [(7, .int (nI (t + 1))), (4, .int (nI (wBits (fun y2 => if y2 = y then smR C w h rn n l y (t + 1) else (decide (y2 < y) && smR C w h rn n l y2 (4 ^ (w * h)))) 10))), (6, .int (wB (alR C w h rn n l y (t + 1)))), (5, .int (nI (y))), (3, .int (nI (wBits (fun y => alR C w h rn n l y (4 ^ (w * h))) y))), (0, wm_r G (96)), (1, .int (nI (n))), (2, .int (nI (l)))] dX10_when_157 2 rfl (nI_inc _) (by decide) rfl ?_
                      refine wa_goto 78 dX10_when_160 (by decide) ?_
                      refine wa_sub [0, 2, 3, 1, 4, 5, 6, 7] rfl ?_
                      first | rw [show alR C w h rn n l y t = alR C w h rn n l y (t + 1) by unfold alR; rw [wAll_s, hlv]; simp, show wBits (fun y2 => if y2 = y then smR C w h rn n l y (t) else (decide (y2 < y) && smR C w h rn n l y2 (4 ^ (w * h)))) 10 = wBits (fun y2 => if y2 = y then smR C w h rn n l y (t + 1) else (decide (y2 < y) && smR C w h rn n l y2 (4 ^ (w * h)))) 10 from wBits_cong (fun j _ => by by_cases q : j = y; (subst q; rw [if_pos rfl, if_pos rfl]; unfold smR; rw [wAny_s, hlv]; simp); (rw [if_neg q, if_neg q]))] | skip
                      exact ih_78 (t + 1) (by omega) (by omega)
                  exact L_130  
                · refine wa_aload_n dX10_when_109 rfl 5 rfl ?_
                  refine wa_getr gX10_when_110 (rfl) rfl ?_
                  refine wa_iload dX10_when_113 0 rfl ?_
                  refine wa_ialdN (e := t) dX10_when_115 (rfl) (by omega) (by decide) ?_
                  refine wa_eqi (y := (nI (stdN C w h t))) (h115 t (by omega)) ?_
                  refine wa_iload_n dX10_when_116 rfl 7 rfl ?_
                  refine wa_cSi (x_has (stdN C w h t) l (by have := stdN_lt C w h t; omega) (by omega)) vX10_has iX10_when_117 rfl rfl (Nat.le_of_ble_eq_true rfl) ⟨by decide, by decide⟩ ?_
                  refine wa_eqi (y := (wB (ctF C w h l t))) (congrArg wB (by unfold stdN; rw [wBits_bit, decide_eq_true hl]; rfl)) ?_
                  refine wa_if_eqB 127 dX10_when_120 (by decide) (fun (c_120 : (ctF C w h l t) = false) => ?_) (fun (c_120 : (ctF C w h l t) = true) => ?_)
                  · refine wa_iconst (0) dX10_when_127 (by decide) ?_
                    refine wa_eqi (y := (wB (alR C w h rn n l y (t + 1)))) (by unfold alR; rw [wAll_s, hlv]; first | (rw [show wAll (fun t2 => !lvR C w h rn n y t2 || ctF C w h l t2) t = _ from c_106]; rfl) | (rw [show wAll (fun t2 => !lvR C w h rn n y t2 || ctF C w h l t2) t = _ from c_106, c_120]; rfl)) ?_
                    refine wa_istore [(6, .int (wB (alR C w h rn n l y (t + 1)))), (7, .int (nI (t))), (5, .int (nI (y))), (4, .int (nI (wBits (fun y2 => if y2 = y then smR C w h rn n l y (t) else (decide (y2 < y) && smR C w h rn n l y2 (4 ^ (w * h)))) 10))), (3, .int (nI (wBits (fun y => alR C w h rn n l y (4 ^ (w * h))) y))), (0, wm_r G (96)), (1, .int (nI (n))), (2, .int (nI (l)))] dX10_when_128 (by decide) rfl ?_
                    have L_130 : WA G t_X10_when (fun v N => v = some (.int (nI (wBits (fun y => alR C w h rn n l y (4 ^ (w * h))) (n + 1)))) ∧ ∃ O, FrX M O ∧ N = xTell O (nI (wBits (fun y2 => decide (y2 < n + 1) && smR C w h rn n l y2 (4 ^ (w * h))) 10))) 130 [(6, .int (wB (alR C w h rn n l y (t + 1)))), (7, .int (nI (t))), (5, .int (nI (y))), (4, .int (nI (wBits (fun y2 => if y2 = y then smR C w h rn n l y (t) else (decide (y2 < y) && smR C w h rn n l y2 (4 ^ (w * h)))) 10))), (3, .int (nI (wBits (fun y => alR C w h rn n l y (4 ^ (w * h))) y))), (0, wm_r G (96)), (1, .int (nI (n))), (2, .int (nI (l)))] [] (N2) := by
                      refine wa_iload dX10_when_130 3 rfl ?_
                      refine wa_aload_n dX10_when_132 rfl 5 rfl ?_
                      refine wa_getr gX10_when_133 (rfl) rfl ?_
                      refine wa_iload dX10_when_136 1 rfl ?_
                      refine wa_ialdN (e := t) dX10_when_138 (rfl) (by omega) (by decide) ?_
                      refine wa_eqi (y := (nI (stdN C w h t))) (h115 t (by omega)) ?_
                      refine wa_iload_n dX10_when_139 rfl 7 rfl ?_
                      refine wa_cSi (x_has (stdN C w h t) l (by have := stdN_lt C w h t; omega) (by omega)) vX10_has iX10_when_140 rfl rfl (Nat.le_of_ble_eq_true rfl) ⟨by decide, by decide⟩ ?_
                      refine wa_eqi (y := (wB (ctF C w h l t))) (congrArg wB (by unfold stdN; rw [wBits_bit, decide_eq_true hl]; rfl)) ?_
                      refine wa_if_eqB 153 dX10_when_143 (by decide) (fun (c_143 : (ctF C w h l t) = false) => ?_) (fun (c_143 : (ctF C w h l t) = true) => ?_)
                      · refine wa_iconst (0) dX10_when_153 (by decide) ?_
                        refine wa_ior dX10_when_154 ?_
                        refine wa_eqi (y := (nI (wBits (fun y2 => if y2 = y then smR C w h rn n l y (t + 1) else (decide (y2 < y) && smR C w h rn n l y2 (4 ^ (w * h)))) 10))) (by first | exact wBits_orI (k := y) (by omega) (by decide) (fun j _ => by by_cases q : j = y; (subst q; rw [if_pos rfl, if_pos rfl]; unfold smR; rw [wAny_s, hlv, c_143]; simp); (rw [if_neg q, if_neg q, decide_eq_false q, Bool.or_false])) | exact Int32.or_zero.trans (congrArg nI (wBits_cong (fun j _ => by by_cases q : j = y; (subst q; rw [if_pos rfl, if_pos rfl]; unfold smR; rw [wAny_s, c_143]; simp); (rw [if_neg q, if_neg q]))))) ?_
                        refine wa_istore [(4, .int (nI (wBits (fun y2 => if y2 = y then smR C w h rn n l y (t + 1) else (decide (y2 < y) && smR C w h rn n l y2 (4 ^ (w * h)))) 10))), (6, .int (wB (alR C w h rn n l y (t + 1)))), (7, .int (nI (t))), (5, .int (nI (y))), (3, .int (nI (wBits (fun y => alR C w h rn n l y (4 ^ (w * h))) y))), (0, wm_r G (96)), (1, .int (nI (n))), (2, .int (nI (l)))] dX10_when_155 (by decide) rfl ?_
                        refine wa_iinc ((nI (t + 1))) [(7, .int (nI (t + 1))), (4, .int (nI (wBits (fun y2 => if y2 = y then smR C w h rn n l y (t + 1) else (decide (y2 < y) && smR C w h rn n l y2 (4 ^ (w * h)))) 10))), (6, .int (wB (alR C w h rn n l y (t + 1)))), (5, .int (nI (y))), (3, .int (nI (wBits (fun y => alR C w h rn n l y (4 ^ (w * h))) y))), (0, wm_r G (96)), (1, .int (nI (n))), (2, .int (nI (l)))] dX10_when_157 2 rfl (nI_inc _) (by decide) rfl ?_
                        refine wa_goto 78 dX10_when_160 (by decide) ?_
                        refine wa_sub [0, 2, 3, 1, 4, 5, 6, 7] rfl ?_
                        first | rw [show alR C w h rn n l y t = alR C w h rn n l y (t + 1) by unfold alR; rw [wAll_s, hlv]; simp, show wBits (fun y2 => if y2 = y then smR C w h rn n l y (t) else (decide (y2 < y) && smR C w h rn n l y2 (4 ^ (w * h)))) 10 = wBits (fun y2 => if y2 = y then smR C w h rn n l y (t + 1) else (decide (y2 < y) && smR C w h rn n l y2 (4 ^ (w * h)))) 10 from wBits_cong (fun j _ => by by_cases q : j = y; (subst q; rw [if_pos rfl, if_pos rfl]; unfold smR; rw [wAny_s, hlv]; simp); (rw [if_neg q, if_neg q]))] | skip
                        exact ih_78 (t + 1) (by omega) (by omega)
                      · refine wa_iconst (1) dX10_when_146 (by decide) ?_
                        refine wa_iload dX10_when_147 2 rfl ?_
                        refine wa_ishl dX10_when_149 ?_
                        refine wa_goto 154 dX10_when_150 (by decide) ?_
                        refine wa_ior dX10_when_154 ?_
                        refine wa_eqi (y := (nI (wBits (fun y2 => if y2 = y then smR C w h rn n l y (t + 1) else (decide (y2 < y) && smR C w h rn n l y2 (4 ^ (w * h)))) 10))) (by first | exact wBits_orI (k := y) (by omega) (by decide) (fun j _ => by by_cases q : j = y; (subst q; rw [if_pos rfl, if_pos rfl]; unfold smR; rw [wAny_s, hlv, c_143]; simp); (rw [if_neg q, if_neg q, decide_eq_false q, Bool.or_false])) | exact Int32.or_zero.trans (congrArg nI (wBits_cong (fun j _ => by by_cases q : j = y; (subst q; rw [if_pos rfl, if_pos rfl]; unfold smR; rw [wAny_s, c_143]; simp); (rw [if_neg q, if_neg q]))))) ?_
                        refine wa_istore [(4, .int (nI (wBits (fun y2 => if y2 = y then smR C w h rn n l y (t + 1) else (decide (y2 < y) && smR C w h rn n l y2 (4 ^ (w * h)))) 10))), (6, .int (wB (alR C w h rn n l y (t + 1)))), (7, .int (nI (t))), (5, .int (nI (y))), (3, .int (nI (wBits (fun y => alR C w h rn n l y (4 ^ (w * h))) y))), (0, wm_r G (96)), (1, .int (nI (n))), (2, .int (nI (l)))] dX10_when_155 (by decide) rfl ?_
                        refine wa_iinc ((nI (t + 1))) [(7, .int (nI (t + 1))), (4, .int (nI (wBits (fun y2 => if y2 = y then smR C w h rn n l y (t + 1) else (decide (y2 < y) && smR C w h rn n l y2 (4 ^ (w * h)))) 10))), (6, .int (wB (alR C w h rn n l y (t + 1)))), (5, .int (nI (y))), (3, .int (nI (wBits (fun y => alR C w h rn n l y (4 ^ (w * h))) y))), (0, wm_r G (96)), (1, .int (nI (n))), (2, .int (nI (l)))] dX10_when_157 2 rfl (nI_inc _) (by decide) rfl ?_
                        refine wa_goto 78 dX10_when_160 (by decide) ?_
                        refine wa_sub [0, 2, 3, 1, 4, 5, 6, 7] rfl ?_
                        first | rw [show alR C w h rn n l y t = alR C w h rn n l y (t + 1) by unfold alR; rw [wAll_s, hlv]; simp, show wBits (fun y2 => if y2 = y then smR C w h rn n l y (t) else (decide (y2 < y) && smR C w h rn n l y2 (4 ^ (w * h)))) 10 = wBits (fun y2 => if y2 = y then smR C w h rn n l y (t + 1) else (decide (y2 < y) && smR C w h rn n l y2 (4 ^ (w * h)))) 10 from wBits_cong (fun j _ => by by_cases q : j = y; (subst q; rw [if_pos rfl, if_pos rfl]; unfold smR; rw [wAny_s, hlv]; simp); (rw [if_neg q, if_neg q]))] | skip
                        exact ih_78 (t + 1) (by omega) (by omega)
                    exact L_130  
                  · refine wa_iconst (1) dX10_when_123 (by decide) ?_
                    refine wa_goto 128 dX10_when_124 (by decide) ?_
                    refine wa_eqi (y := (wB (alR C w h rn n l y (t + 1)))) (by unfold alR; rw [wAll_s, hlv]; first | (rw [show wAll (fun t2 => !lvR C w h rn n y t2 || ctF C w h l t2) t = _ from c_106]; rfl) | (rw [show wAll (fun t2 => !lvR C w h rn n y t2 || ctF C w h l t2) t = _ from c_106, c_120]; rfl)) ?_
                    refine wa_istore [(6, .int (wB (alR C w h rn n l y (t + 1)))), (7, .int (nI (t))), (5, .int (nI (y))), (4, .int (nI (wBits (fun y2 => if y2 = y then smR C w h rn n l y (t) else (decide (y2 < y) && smR C w h rn n l y2 (4 ^ (w * h)))) 10))), (3, .int (nI (wBits (fun y => alR C w h rn n l y (4 ^ (w * h))) y))), (0, wm_r G (96)), (1, .int (nI (n))), (2, .int (nI (l)))] dX10_when_128 (by decide) rfl ?_
                    have L_130 : WA G t_X10_when (fun v N => v = some (.int (nI (wBits (fun y => alR C w h rn n l y (4 ^ (w * h))) (n + 1)))) ∧ ∃ O, FrX M O ∧ N = xTell O (nI (wBits (fun y2 => decide (y2 < n + 1) && smR C w h rn n l y2 (4 ^ (w * h))) 10))) 130 [(6, .int (wB (alR C w h rn n l y (t + 1)))), (7, .int (nI (t))), (5, .int (nI (y))), (4, .int (nI (wBits (fun y2 => if y2 = y then smR C w h rn n l y (t) else (decide (y2 < y) && smR C w h rn n l y2 (4 ^ (w * h)))) 10))), (3, .int (nI (wBits (fun y => alR C w h rn n l y (4 ^ (w * h))) y))), (0, wm_r G (96)), (1, .int (nI (n))), (2, .int (nI (l)))] [] (N2) := by
                      refine wa_iload dX10_when_130 3 rfl ?_
                      refine wa_aload_n dX10_when_132 rfl 5 rfl ?_
                      refine wa_getr gX10_when_133 (rfl) rfl ?_
                      refine wa_iload dX10_when_136 1 rfl ?_
                      refine wa_ialdN (e := t) dX10_when_138 (rfl) (by omega) (by decide) ?_
                      refine wa_eqi (y := (nI (stdN C w h t))) (h115 t (by omega)) ?_
                      refine wa_iload_n dX10_when_139 rfl 7 rfl ?_
                      refine wa_cSi (x_has (stdN C w h t) l (by have := stdN_lt C w h t; omega) (by omega)) vX10_has iX10_when_140 rfl rfl (Nat.le_of_ble_eq_true rfl) ⟨by decide, by decide⟩ ?_
                      refine wa_eqi (y := (wB (ctF C w h l t))) (congrArg wB (by unfold stdN; rw [wBits_bit, decide_eq_true hl]; rfl)) ?_
                      refine wa_if_eqB 153 dX10_when_143 (by decide) (fun (c_143 : (ctF C w h l t) = false) => ?_) (fun (c_143 : (ctF C w h l t) = true) => ?_)
                      · refine wa_iconst (0) dX10_when_153 (by decide) ?_
                        refine wa_ior dX10_when_154 ?_
                        refine wa_eqi (y := (nI (wBits (fun y2 => if y2 = y then smR C w h rn n l y (t + 1) else (decide (y2 < y) && smR C w h rn n l y2 (4 ^ (w * h)))) 10))) (by first | exact wBits_orI (k := y) (by omega) (by decide) (fun j _ => by by_cases q : j = y; (subst q; rw [if_pos rfl, if_pos rfl]; unfold smR; rw [wAny_s, hlv, c_143]; simp); (rw [if_neg q, if_neg q, decide_eq_false q, Bool.or_false])) | exact Int32.or_zero.trans (congrArg nI (wBits_cong (fun j _ => by by_cases q : j = y; (subst q; rw [if_pos rfl, if_pos rfl]; unfold smR; rw [wAny_s, c_143]; simp); (rw [if_neg q, if_neg q]))))) ?_
                        refine wa_istore [(4, .int (nI (wBits (fun y2 => if y2 = y then smR C w h rn n l y (t + 1) else (decide (y2 < y) && smR C w h rn n l y2 (4 ^ (w * h)))) 10))), (6, .int (wB (alR C w h rn n l y (t + 1)))), (7, .int (nI (t))), (5, .int (nI (y))), (3, .int (nI (wBits (fun y => alR C w h rn n l y (4 ^ (w * h))) y))), (0, wm_r G (96)), (1, .int (nI (n))), (2, .int (nI (l)))] dX10_when_155 (by decide) rfl ?_
                        refine wa_iinc ((nI (t + 1))) [(7, .int (nI (t + 1))), (4, .int (nI (wBits (fun y2 => if y2 = y then smR C w h rn n l y (t + 1) else (decide (y2 < y) && smR C w h rn n l y2 (4 ^ (w * h)))) 10))), (6, .int (wB (alR C w h rn n l y (t + 1)))), (5, .int (nI (y))), (3, .int (nI (wBits (fun y => alR C w h rn n l y (4 ^ (w * h))) y))), (0, wm_r G (96)), (1, .int (nI (n))), (2, .int (nI (l)))] dX10_when_157 2 rfl (nI_inc _) (by decide) rfl ?_
                        refine wa_goto 78 dX10_when_160 (by decide) ?_
                        refine wa_sub [0, 2, 3, 1, 4, 5, 6, 7] rfl ?_
                        first | rw [show alR C w h rn n l y t = alR C w h rn n l y (t + 1) by unfold alR; rw [wAll_s, hlv]; simp, show wBits (fun y2 => if y2 = y then smR C w h rn n l y (t) else (decide (y2 < y) && smR C w h rn n l y2 (4 ^ (w * h)))) 10 = wBits (fun y2 => if y2 = y then smR C w h rn n l y (t + 1) else (decide (y2 < y) && smR C w h rn n l y2 (4 ^ (w * h)))) 10 from wBits_cong (fun j _ => by by_cases q : j = y; (subst q; rw [if_pos rfl, if_pos rfl]; unfold smR; rw [wAny_s, hlv]; simp); (rw [if_neg q, if_neg q]))] | skip
                        exact ih_78 (t + 1) (by omega) (by omega)
                      · refine wa_iconst (1) dX10_when_146 (by decide) ?_
                        refine wa_iload dX10_when_147 2 rfl ?_
                        refine wa_ishl dX10_when_149 ?_
                        refine wa_goto 154 dX10_when_150 (by decide) ?_
                        refine wa_ior dX10_when_154 ?_
                        refine wa_eqi (y := (nI (wBits (fun y2 => if y2 = y then smR C w h rn n l y (t + 1) else (decide (y2 < y) && smR C w h rn n l y2 (4 ^ (w * h)))) 10))) (by first | exact wBits_orI (k := y) (by omega) (by decide) (fun j _ => by by_cases q : j = y; (subst q; rw [if_pos rfl, if_pos rfl]; unfold smR; rw [wAny_s, hlv, c_143]; simp); (rw [if_neg q, if_neg q, decide_eq_false q, Bool.or_false])) | exact Int32.or_zero.trans (congrArg nI (wBits_cong (fun j _ => by by_cases q : j = y; (subst q; rw [if_pos rfl, if_pos rfl]; unfold smR; rw [wAny_s, c_143]; simp); (rw [if_neg q, if_neg q]))))) ?_
                        refine wa_istore [(4, .int (nI (wBits (fun y2 => if y2 = y then smR C w h rn n l y (t + 1) else (decide (y2 < y) && smR C w h rn n l y2 (4 ^ (w * h)))) 10))), (6, .int (wB (alR C w h rn n l y (t + 1)))), (7, .int (nI (t))), (5, .int (nI (y))), (3, .int (nI (wBits (fun y => alR C w h rn n l y (4 ^ (w * h))) y))), (0, wm_r G (96)), (1, .int (nI (n))), (2, .int (nI (l)))] dX10_when_155 (by decide) rfl ?_
                        refine wa_iinc ((nI (t + 1))) [(7, .int (nI (t + 1))), (4, .int (nI (wBits (fun y2 => if y2 = y then smR C w h rn n l y (t + 1) else (decide (y2 < y) && smR C w h rn n l y2 (4 ^ (w * h)))) 10))), (6, .int (wB (alR C w h rn n l y (t + 1)))), (5, .int (nI (y))), (3, .int (nI (wBits (fun y => alR C w h rn n l y (4 ^ (w * h))) y))), (0, wm_r G (96)), (1, .int (nI (n))), (2, .int (nI (l)))] dX10_when_157 2 rfl (nI_inc _) (by decide) rfl ?_
                        refine wa_goto 78 dX10_when_160 (by decide) ?_
                        refine wa_sub [0, 2, 3, 1, 4, 5, 6, 7] rfl ?_
                        first | rw [show alR C w h rn n l y t = alR C w h rn n l y (t + 1) by unfold alR; rw [wAll_s, hlv]; simp, show wBits (fun y2 => if y2 = y then smR C w h rn n l y (t) else (decide (y2 < y) && smR C w h rn n l y2 (4 ^ (w * h)))) 10 = wBits (fun y2 => if y2 = y then smR C w h rn n l y (t + 1) else (decide (y2 < y) && smR C w h rn n l y2 (4 ^ (w * h)))) 10 from wBits_cong (fun j _ => by by_cases q : j = y; (subst q; rw [if_pos rfl, if_pos rfl]; unfold smR; rw [wAny_s, hlv]; simp); (rw [if_neg q, if_neg q]))] | skip
                        exact ih_78 (t + 1) (by omega) (by omega)
                    exact L_130  
        rw [show wBits (fun y2 => decide (y2 < y) && smR C w h rn n l y2 (4 ^ (w * h))) 10 = wBits (fun y2 => if y2 = y then smR C w h rn n l y (0) else (decide (y2 < y) && smR C w h rn n l y2 (4 ^ (w * h)))) 10 from wBits_cong (fun j _ => by by_cases q : j = y; (subst q; rw [if_pos rfl, decide_eq_false (by omega)]; rfl); (rw [if_neg q]))]
        exact L_78 _ 0 (Nat.lt_succ_self _) (Nat.zero_le _)
  exact L_66 _ 0 (Nat.lt_succ_self _) (Nat.zero_le _)

theorem x_turned_bad1 {G : wm_G} {M : wm_M} (n k : Int32) (hy : wIn n 10 = false) : MD G t_X10_turned [wm_r G (96), .int (n), .int (k)] (M) (some (.int (-1))) (M) := by
  refine wm_met (by decide) (Nat.le_of_ble_eq_true rfl) ?_
  show WA G t_X10_turned (fun v_ N_ => v_ = some (.int (-1)) ∧ N_ = M) 0 [(0, wm_r G (96)), (1, .int (n)), (2, .int (k))] [] (M)
  refine wa_iload_n dX10_turned_0 rfl 1 rfl ?_
  refine wa_cSi (x_areYears n) vX10_areYears iX10_turned_1 rfl rfl (Nat.le_of_ble_eq_true rfl) ⟨by decide, by decide⟩ ?_
  refine wa_eqi (y := (0)) (by rw [hy]; rfl) ?_
  refine wa_if_eq 16 dX10_turned_4 (by decide) (fun c_4 => ?_) (fun c_4 => absurd c_4 (by decide))
  refine wa_iconst (-1) dX10_turned_16 (by decide) ?_
  exact wa_iret dX10_turned_17 rfl ⟨congrArg (fun z => some (Value.int z)) (rfl), rfl⟩

theorem x_turned_bad2 {G : wm_G} {M : wm_M} (n : Nat) (hy : n < 10) (k : Int32) (hp : k < 1 ∨ ¬ k ≤ nI n) : MD G t_X10_turned [wm_r G (96), .int (nI (n)), .int (k)] (M) (some (.int (-1))) (M) := by
  refine wm_met (by decide) (Nat.le_of_ble_eq_true rfl) ?_
  show WA G t_X10_turned (fun v_ N_ => v_ = some (.int (-1)) ∧ N_ = M) 0 [(0, wm_r G (96)), (1, .int (nI (n))), (2, .int (k))] [] (M)
  refine wa_iload_n dX10_turned_0 rfl 1 rfl ?_
  refine wa_cSi (x_areYears (nI n)) vX10_areYears iX10_turned_1 rfl rfl (Nat.le_of_ble_eq_true rfl) ⟨by decide, by decide⟩ ?_
  refine wa_eqi (y := (1)) (by rw [wIn_nI (by omega), decide_eq_true (by omega)]; rfl) ?_
  refine wa_if_eq 16 dX10_turned_4 (by decide) (fun c_4 => absurd c_4 (by decide)) (fun c_4 => ?_)
  refine wa_iload_n dX10_turned_7 rfl 2 rfl ?_
  refine wa_iconst (1) dX10_turned_8 (by decide) ?_
  refine wa_iload_n dX10_turned_9 rfl 1 rfl ?_
  refine wa_cSi (x_in k 1 (nI n)) vX10_in iX10_turned_10 rfl rfl (Nat.le_of_ble_eq_true rfl) ⟨by decide, by decide⟩ ?_
  refine wa_eqi (y := (0)) (by rw [show inC k 1 (nI n) = false from Bool.eq_false_iff.mpr (fun q => (inC_1 (by omega)).mp q hp)]; rfl) ?_
  refine wa_if_ne 18 dX10_turned_13 (by decide) (fun c_13 => absurd c_13 (by decide)) (fun c_13 => ?_)
  refine wa_iconst (-1) dX10_turned_16 (by decide) ?_
  exact wa_iret dX10_turned_17 rfl ⟨congrArg (fun z => some (Value.int z)) (rfl), rfl⟩

theorem x_turned_nt {G : wm_G} {M : wm_M} (C : wm_M) (w h rn : Nat) (hX : xStn C M w h) (hW : TW C w h) (hRO : RecOk C w h rn) (hE : xEng C M w h rn) (n : Nat) (hy : n < 10) (y : Nat) (h1 : 1 ≤ y) (hyn : y ≤ n) (h0 : ONn C w h rn n n 0 = 0) : MA G t_X10_turned [wm_r G (96), .int (nI (n)), .int (nI (y))] (M) (fun v N => v = some (.int (-3)) ∧ ∃ O, FrX M O ∧ N = xNote O 4) := by
  obtain ⟨x10, x11, x12, x103, x104, x105, x106⟩ := id hX
  have hn6 := TW_n hW
  have hw3 := hW.2.2.1
  have hh2 := hW.2.2.2
  have h4 := p4_le hn6
  have h40 : 0 < 4 ^ (w * h) := Nat.pow_pos (by decide)
  have hon9 := ON_le (C := C) (rn := rn) (n := n) (d := n) (t := 0) hn6 (by omega) h40
  refine wm_met (by decide) (Nat.le_of_ble_eq_true rfl) ?_
  show WA G t_X10_turned (fun v N => v = some (.int (-3)) ∧ ∃ O, FrX M O ∧ N = xNote O 4) 0 [(0, wm_r G (96)), (1, .int (nI (n))), (2, .int (nI (y)))] [] (M)
  refine wa_iload_n dX10_turned_0 rfl 1 rfl ?_
  refine wa_cSi (x_areYears (nI n)) vX10_areYears iX10_turned_1 rfl rfl (Nat.le_of_ble_eq_true rfl) ⟨by decide, by decide⟩ ?_
  refine wa_eqi (y := (1)) (by rw [wIn_nI (by omega), decide_eq_true (by omega)]; rfl) ?_
  refine wa_if_eq 16 dX10_turned_4 (by decide) (fun c_4 => absurd c_4 (by decide)) (fun c_4 => ?_)
  refine wa_iload_n dX10_turned_7 rfl 2 rfl ?_
  refine wa_iconst (1) dX10_turned_8 (by decide) ?_
  refine wa_iload_n dX10_turned_9 rfl 1 rfl ?_
  refine wa_cSi (x_in (nI y) 1 (nI n)) vX10_in iX10_turned_10 rfl rfl (Nat.le_of_ble_eq_true rfl) ⟨by decide, by decide⟩ ?_
  refine wa_eqi (y := (1)) (by rw [show inC (nI y) 1 (nI n) = true from inC_t (fun q => by have := (nI_ltI (b := 1) (by omega) (by decide)).mp q; omega) ((nI_leI (by omega) (by omega)).mpr hyn)]; rfl) ?_
  refine wa_if_ne 18 dX10_turned_13 (by decide) (fun c_13 => ?_) (fun c_13 => absurd c_13 (by decide))
  refine wa_aload_n dX10_turned_18 rfl 0 rfl ?_
  refine wa_iload_n dX10_turned_19 rfl 1 rfl ?_
  refine wa_callV (x_layHist C w h rn hX hW hRO hE n (by omega)) vX10_layHistories iX10_turned_20 (rfl) rfl rfl rfl (Nat.le_of_ble_eq_true rfl) ⟨by decide, by decide⟩ (fun v_ N1 h_ => ?_)
  obtain ⟨rfl, hF1, hfo, hon⟩ := h_
  show WA G t_X10_turned (fun v N => v = some (.int (-3)) ∧ ∃ O, FrX M O ∧ N = xNote O 4) 23 [(0, wm_r G (96)), (1, .int (nI (n))), (2, .int (nI (y)))] [] (N1)
  refine wa_aload_n dX10_turned_23 rfl 0 rfl ?_
  refine wa_getr gX10_turned_24 (rfl) rfl ?_
  refine wa_iconst (0) dX10_turned_27 (by decide) ?_
  refine wa_laldN (e := 0) dX10_turned_28 (rfl) (by omega) (by decide) ?_
  refine wa_eql (y := lN (ONn C w h rn n n 0)) (hon 0 (Nat.zero_le _) 0 h40) ?_
  refine wa_lconst (0) dX10_turned_29 (by decide) ?_
  refine wa_lcmp dX10_turned_30 ?_
  refine wa_if_ne 40 dX10_turned_31 (by decide) (fun c_31 => absurd ((lg_cmp0 (by omega)).mpr h0) c_31) (fun c_31 => ?_)
  refine wa_aload_n dX10_turned_34 rfl 0 rfl ?_
  refine wa_iconst (4) dX10_turned_35 (by decide) ?_
  refine wa_cVi (x_meets 4 (by decide) (by decide)) vX10_meets iX10_turned_36 (rfl) rfl rfl rfl (Nat.le_of_ble_eq_true rfl) ⟨by decide, by decide⟩ ?_
  refine wa_iret dX10_turned_39 rfl ?_
  exact ⟨rfl, N1, hF1.x, rfl⟩

set_option maxHeartbeats 4000000 in
theorem x_turned_ok {G : wm_G} {M : wm_M} (C : wm_M) (w h rn : Nat) (hX : xStn C M w h) (hW : TW C w h) (hRO : RecOk C w h rn) (hE : xEng C M w h rn) (n : Nat) (hy : n < 10) (y : Nat) (h1 : 1 ≤ y) (hyn : y ≤ n) (h0 : 0 < ONn C w h rn n n 0) : MA G t_X10_turned [wm_r G (96), .int (nI (n)), .int (nI (y))] (M) (fun v N => v = some (.int (nI (wBits (fun k => wAny (fun t2 => tnR C w h rn n y t2 k) (4 ^ (w * h))) (w * h)))) ∧ ∃ O, FrX M O ∧ N = xTell O (wB (wAny (fun t2 => lvR C w h rn n (y - 1) t2 && lvR C w h rn n y t2) (4 ^ (w * h))))) := by
  obtain ⟨x10, x11, x12, x103, x104, x105, x106⟩ := id hX
  have hn6 := TW_n hW
  have hw3 := hW.2.2.1
  have hh2 := hW.2.2.2
  have h4 := p4_le hn6
  have h40 : 0 < 4 ^ (w * h) := Nat.pow_pos (by decide)
  have hon9 := ON_le (C := C) (rn := rn) (n := n) (d := n) (t := 0) hn6 (by omega) h40
  refine wm_met (by decide) (Nat.le_of_ble_eq_true rfl) ?_
  show WA G t_X10_turned (fun v N => v = some (.int (nI (wBits (fun k => wAny (fun t2 => tnR C w h rn n y t2 k) (4 ^ (w * h))) (w * h)))) ∧ ∃ O, FrX M O ∧ N = xTell O (wB (wAny (fun t2 => lvR C w h rn n (y - 1) t2 && lvR C w h rn n y t2) (4 ^ (w * h))))) 0 [(0, wm_r G (96)), (1, .int (nI (n))), (2, .int (nI (y)))] [] (M)
  refine wa_iload_n dX10_turned_0 rfl 1 rfl ?_
  refine wa_cSi (x_areYears (nI n)) vX10_areYears iX10_turned_1 rfl rfl (Nat.le_of_ble_eq_true rfl) ⟨by decide, by decide⟩ ?_
  refine wa_eqi (y := (1)) (by rw [wIn_nI (by omega), decide_eq_true (by omega)]; rfl) ?_
  refine wa_if_eq 16 dX10_turned_4 (by decide) (fun c_4 => absurd c_4 (by decide)) (fun c_4 => ?_)
  refine wa_iload_n dX10_turned_7 rfl 2 rfl ?_
  refine wa_iconst (1) dX10_turned_8 (by decide) ?_
  refine wa_iload_n dX10_turned_9 rfl 1 rfl ?_
  refine wa_cSi (x_in (nI y) 1 (nI n)) vX10_in iX10_turned_10 rfl rfl (Nat.le_of_ble_eq_true rfl) ⟨by decide, by decide⟩ ?_
  refine wa_eqi (y := (1)) (by rw [show inC (nI y) 1 (nI n) = true from inC_t (fun q => by have := (nI_ltI (b := 1) (by omega) (by decide)).mp q; omega) ((nI_leI (by omega) (by omega)).mpr hyn)]; rfl) ?_
  refine wa_if_ne 18 dX10_turned_13 (by decide) (fun c_13 => ?_) (fun c_13 => absurd c_13 (by decide))
  refine wa_aload_n dX10_turned_18 rfl 0 rfl ?_
  refine wa_iload_n dX10_turned_19 rfl 1 rfl ?_
  refine wa_callV (x_layHist C w h rn hX hW hRO hE n (by omega)) vX10_layHistories iX10_turned_20 (rfl) rfl rfl rfl (Nat.le_of_ble_eq_true rfl) ⟨by decide, by decide⟩ (fun v_ N1 h_ => ?_)
  obtain ⟨rfl, hF1, hfo, hon⟩ := h_
  show WA G t_X10_turned (fun v N => v = some (.int (nI (wBits (fun k => wAny (fun t2 => tnR C w h rn n y t2 k) (4 ^ (w * h))) (w * h)))) ∧ ∃ O, FrX M O ∧ N = xTell O (wB (wAny (fun t2 => lvR C w h rn n (y - 1) t2 && lvR C w h rn n y t2) (4 ^ (w * h))))) 23 [(0, wm_r G (96)), (1, .int (nI (n))), (2, .int (nI (y)))] [] (N1)
  refine wa_aload_n dX10_turned_23 rfl 0 rfl ?_
  refine wa_getr gX10_turned_24 (rfl) rfl ?_
  refine wa_iconst (0) dX10_turned_27 (by decide) ?_
  refine wa_laldN (e := 0) dX10_turned_28 (rfl) (by omega) (by decide) ?_
  refine wa_eql (y := lN (ONn C w h rn n n 0)) (hon 0 (Nat.zero_le _) 0 h40) ?_
  refine wa_lconst (0) dX10_turned_29 (by decide) ?_
  refine wa_lcmp dX10_turned_30 ?_
  refine wa_if_ne 40 dX10_turned_31 (by decide) (fun c_31 => ?_) (fun c_31 => absurd ((lg_cmp0 (by omega)).mp c_31) (by omega))
  refine wa_iconst (0) dX10_turned_40 (by decide) ?_
  refine wa_eqi (y := (nI (wBits (fun k => wAny (fun t2 => tnR C w h rn n y t2 k) (0)) (w * h)))) (congrArg nI (wBits_z (fun i _ => rfl)).symm) ?_
  refine wa_istore_n [(3, .int (nI (wBits (fun k => wAny (fun t2 => tnR C w h rn n y t2 k) (0)) (w * h)))), (0, wm_r G (96)), (1, .int (nI (n))), (2, .int (nI (y)))] dX10_turned_41 rfl (by decide) rfl ?_
  refine wa_iconst (0) dX10_turned_42 (by decide) ?_
  refine wa_eqi (y := (wB (wAny (fun t2 => lvR C w h rn n (y - 1) t2 && lvR C w h rn n y t2) 0))) (rfl) ?_
  refine wa_istore [(4, .int (wB (wAny (fun t2 => lvR C w h rn n (y - 1) t2 && lvR C w h rn n y t2) 0))), (3, .int (nI (wBits (fun k => wAny (fun t2 => tnR C w h rn n y t2 k) (0)) (w * h)))), (0, wm_r G (96)), (1, .int (nI (n))), (2, .int (nI (y)))] dX10_turned_43 (by decide) rfl ?_
  refine wa_iconst (0) dX10_turned_45 (by decide) ?_
  refine wa_istore [(5, .int (0)), (4, .int (wB (wAny (fun t2 => lvR C w h rn n (y - 1) t2 && lvR C w h rn n y t2) 0))), (3, .int (nI (wBits (fun k => wAny (fun t2 => tnR C w h rn n y t2 k) (0)) (w * h)))), (0, wm_r G (96)), (1, .int (nI (n))), (2, .int (nI (y)))] dX10_turned_46 (by decide) rfl ?_
  have L_48 : ∀ (n_ : Nat) (t : Nat), (4 ^ (w * h) - t) < n_ → (t ≤ 4 ^ (w * h)) → WA G t_X10_turned (fun v N => v = some (.int (nI (wBits (fun k => wAny (fun t2 => tnR C w h rn n y t2 k) (4 ^ (w * h))) (w * h)))) ∧ ∃ O, FrX M O ∧ N = xTell O (wB (wAny (fun t2 => lvR C w h rn n (y - 1) t2 && lvR C w h rn n y t2) (4 ^ (w * h))))) 48 [(5, .int (nI (t))), (4, .int (wB (wAny (fun t2 => lvR C w h rn n (y - 1) t2 && lvR C w h rn n y t2) t))), (3, .int (nI (wBits (fun k => wAny (fun t2 => tnR C w h rn n y t2 k) (t)) (w * h)))), (0, wm_r G (96)), (1, .int (nI (n))), (2, .int (nI (y)))] [] (N1) := by
    intro n_
    induction n_ with
    | zero => intro t h_; exact absurd h_ (Nat.not_lt_zero _)
    | succ n_ ih_48 =>
      intro t h_ ht
      refine wa_iload dX10_turned_48 0 rfl ?_
      refine wa_aload_n dX10_turned_50 rfl 3 rfl ?_
      refine wa_cVi (x_stateMany (w * h) hn6 (by rw [hF1.1 96 (by decide)]; exact x12)) vX10_stateMany iX10_turned_51 (rfl) rfl rfl rfl (Nat.le_of_ble_eq_true rfl) ⟨by decide, by decide⟩ ?_
      refine wa_icmp_geN (a := t) (b := 4 ^ (w * h)) 165 dX10_turned_54 (by decide) (by omega) (by omega) (fun c_54 => ?_) (fun c_54 => ?_)
      · refine wa_aload_n dX10_turned_165 rfl 3 rfl ?_
        refine wa_iload dX10_turned_166 1 rfl ?_
        refine wa_eqi (y := (wB (wAny (fun t2 => lvR C w h rn n (y - 1) t2 && lvR C w h rn n y t2) (4 ^ (w * h))))) (by rw [show t = 4 ^ (w * h) by omega]) ?_
        refine wa_iload_n dX10_turned_168 rfl 2 rfl ?_
        refine wa_eqi (y := (nI (wBits (fun k => wAny (fun t2 => tnR C w h rn n y t2 k) (4 ^ (w * h))) (w * h)))) (by rw [show t = 4 ^ (w * h) by omega]) ?_
        refine wa_cVi (x_tells (wB (wAny (fun t2 => lvR C w h rn n (y - 1) t2 && lvR C w h rn n y t2) (4 ^ (w * h)))) (nI (wBits (fun k => wAny (fun t2 => tnR C w h rn n y t2 k) (4 ^ (w * h))) (w * h)))) vX10_tells iX10_turned_169 (rfl) rfl rfl rfl (Nat.le_of_ble_eq_true rfl) ⟨by decide, by decide⟩ ?_
        refine wa_iret dX10_turned_172 rfl ?_
        exact ⟨rfl, N1, hF1.x, rfl⟩
      · refine wa_aload_n dX10_turned_57 rfl 3 rfl ?_
        refine wa_getr gX10_turned_58 (rfl) rfl ?_
        refine wa_iload_n dX10_turned_61 rfl 5 rfl ?_
        refine wa_iconst (1) dX10_turned_62 (by decide) ?_
        refine wa_isubN (a := y) (b := 1) dX10_turned_63 (by omega) ?_
        refine wa_iload dX10_turned_64 0 rfl ?_
        refine wa_cSi (x_spot (y - 1) t) vX10_spot iX10_turned_66 rfl rfl (Nat.le_of_ble_eq_true rfl) ⟨by decide, by decide⟩ ?_
        refine wa_laldN (e := 4096 * (y - 1) + t) dX10_turned_69 (rfl) (by omega) (by decide) ?_
        refine wa_eql (y := lN (ONn C w h rn n (n - (y - 1)) t)) (hon (y - 1) (by omega) t (by omega)) ?_
        have hb1 := ON_le (C := C) (rn := rn) (n := n) (d := n - (y - 1)) (t := t) hn6 (by omega) (by omega)
        refine wa_lconst (0) dX10_turned_70 (by decide) ?_
        refine wa_lcmp dX10_turned_71 ?_
        refine wa_if_le 159 dX10_turned_72 (by decide) (fun c_72 => ?_) (fun c_72 => ?_)
        · have hl1 : lvR C w h rn n (y - 1) t = false := by unfold lvR; exact decide_eq_false (by have := (lg_0 (by omega)).mp c_72; omega)
          refine wa_iinc ((nI (t + 1))) [(5, .int (nI (t + 1))), (4, .int (wB (wAny (fun t2 => lvR C w h rn n (y - 1) t2 && lvR C w h rn n y t2) t))), (3, .int (nI (wBits (fun k => wAny (fun t2 => tnR C w h rn n y t2 k) (t)) (w * h)))), (0, wm_r G (96)), (1, .int (nI (n))), (2, .int (nI (y)))] dX10_turned_159 0 rfl (nI_inc _) (by decide) rfl ?_
          refine wa_goto 48 dX10_turned_162 (by decide) ?_
          first | rw [show wBits (fun k2 => if k2 < k then wAny (fun t2 => tnR C w h rn n y t2 k2) (t + 1) else wAny (fun t2 => tnR C w h rn n y t2 k2) t) (w * h) = wBits (fun k => wAny (fun t2 => tnR C w h rn n y t2 k) (t + 1)) (w * h) from by rw [show k = w * h by omega]; exact wBits_cong (fun j hj => if_pos hj)] | rw [show wAny (fun t2 => lvR C w h rn n (y - 1) t2 && lvR C w h rn n y t2) t = wAny (fun t2 => lvR C w h rn n (y - 1) t2 && lvR C w h rn n y t2) (t + 1) by rw [wAny_s, hl1]; simp, show wBits (fun k => wAny (fun t2 => tnR C w h rn n y t2 k) (t)) (w * h) = wBits (fun k => wAny (fun t2 => tnR C w h rn n y t2 k) (t + 1)) (w * h) from wBits_cong (fun j _ => by rw [wAny_s]; unfold tnR; rw [hl1]; simp)]
          exact ih_48 (t + 1) (by omega) (by omega)
        · have hl1 : lvR C w h rn n (y - 1) t = true := by unfold lvR; exact decide_eq_true (Nat.pos_of_ne_zero (fun q => c_72 ((lg_0 (by omega)).mpr q)))
          refine wa_aload_n dX10_turned_75 rfl 3 rfl ?_
          refine wa_getr gX10_turned_76 (rfl) rfl ?_
          refine wa_iload_n dX10_turned_79 rfl 5 rfl ?_
          refine wa_iload dX10_turned_80 0 rfl ?_
          refine wa_cSi (x_spot y t) vX10_spot iX10_turned_82 rfl rfl (Nat.le_of_ble_eq_true rfl) ⟨by decide, by decide⟩ ?_
          refine wa_laldN (e := 4096 * y + t) dX10_turned_85 (rfl) (by omega) (by decide) ?_
          refine wa_eql (y := lN (ONn C w h rn n (n - y) t)) (hon y (by omega) t (by omega)) ?_
          have hb2 := ON_le (C := C) (rn := rn) (n := n) (d := n - y) (t := t) hn6 (by omega) (by omega)
          refine wa_lconst (0) dX10_turned_86 (by decide) ?_
          refine wa_lcmp dX10_turned_87 ?_
          refine wa_if_le 95 dX10_turned_88 (by decide) (fun c_88 => ?_) (fun c_88 => ?_)
          · have hl2 : lvR C w h rn n y t = false := by unfold lvR; exact decide_eq_false (by have := (lg_0 (by omega)).mp c_88; omega)
            refine wa_iload dX10_turned_95 1 rfl ?_
            refine wa_eqi (y := (wB (wAny (fun t2 => lvR C w h rn n (y - 1) t2 && lvR C w h rn n y t2) (t + 1)))) (by rw [wAny_s, hl1, hl2]; simp [wB]) ?_
            refine wa_istore [(4, .int (wB (wAny (fun t2 => lvR C w h rn n (y - 1) t2 && lvR C w h rn n y t2) (t + 1)))), (5, .int (nI (t))), (3, .int (nI (wBits (fun k => wAny (fun t2 => tnR C w h rn n y t2 k) (t)) (w * h)))), (0, wm_r G (96)), (1, .int (nI (n))), (2, .int (nI (y)))] dX10_turned_97 (by decide) rfl ?_
            have L_99 : WA G t_X10_turned (fun v N => v = some (.int (nI (wBits (fun k => wAny (fun t2 => tnR C w h rn n y t2 k) (4 ^ (w * h))) (w * h)))) ∧ ∃ O, FrX M O ∧ N = xTell O (wB (wAny (fun t2 => lvR C w h rn n (y - 1) t2 && lvR C w h rn n y t2) (4 ^ (w * h))))) 99 [(4, .int (wB (wAny (fun t2 => lvR C w h rn n (y - 1) t2 && lvR C w h rn n y t2) (t + 1)))), (5, .int (nI (t))), (3, .int (nI (wBits (fun k => wAny (fun t2 => tnR C w h rn n y t2 k) (t)) (w * h)))), (0, wm_r G (96)), (1, .int (nI (n))), (2, .int (nI (y)))] [] (N1) := by
              refine wa_iconst (0) dX10_turned_99 (by decide) ?_
              refine wa_istore [(6, .int (0)), (4, .int (wB (wAny (fun t2 => lvR C w h rn n (y - 1) t2 && lvR C w h rn n y t2) (t + 1)))), (5, .int (nI (t))), (3, .int (nI (wBits (fun k => wAny (fun t2 => tnR C w h rn n y t2 k) (t)) (w * h)))), (0, wm_r G (96)), (1, .int (nI (n))), (2, .int (nI (y)))] dX10_turned_100 (by decide) rfl ?_
              have L_102 : ∀ (n_ : Nat) (k : Nat), (w * h - k) < n_ → (k ≤ w * h) → WA G t_X10_turned (fun v N => v = some (.int (nI (wBits (fun k => wAny (fun t2 => tnR C w h rn n y t2 k) (4 ^ (w * h))) (w * h)))) ∧ ∃ O, FrX M O ∧ N = xTell O (wB (wAny (fun t2 => lvR C w h rn n (y - 1) t2 && lvR C w h rn n y t2) (4 ^ (w * h))))) 102 [(6, .int (nI (k))), (5, .int (nI (t))), (4, .int (wB (wAny (fun t2 => lvR C w h rn n (y - 1) t2 && lvR C w h rn n y t2) (t + 1)))), (3, .int (nI (wBits (fun k2 => if k2 < k then wAny (fun t2 => tnR C w h rn n y t2 k2) (t + 1) else wAny (fun t2 => tnR C w h rn n y t2 k2) t) (w * h)))), (0, wm_r G (96)), (1, .int (nI (n))), (2, .int (nI (y)))] [] (N1) := by
                intro n_
                induction n_ with
                | zero => intro k h_; exact absurd h_ (Nat.not_lt_zero _)
                | succ n_ ih_102 =>
                  intro k h_ hk
                  refine wa_iload dX10_turned_102 0 rfl ?_
                  refine wa_aload_n dX10_turned_104 rfl 4 rfl ?_
                  refine wa_geti gX10_turned_105 (rfl) rfl ?_
                  refine wa_eqi (y := (nI (w * h))) (by rw [hF1.1 96 (by decide)]; exact x12) ?_
                  refine wa_icmp_geN (a := k) (b := w * h) 159 dX10_turned_108 (by decide) (by omega) (by omega) (fun c_108 => ?_) (fun c_108 => ?_)
                  · refine wa_iinc ((nI (t + 1))) [(5, .int (nI (t + 1))), (6, .int (nI (k))), (4, .int (wB (wAny (fun t2 => lvR C w h rn n (y - 1) t2 && lvR C w h rn n y t2) (t + 1)))), (3, .int (nI (wBits (fun k2 => if k2 < k then wAny (fun t2 => tnR C w h rn n y t2 k2) (t + 1) else wAny (fun t2 => tnR C w h rn n y t2 k2) t) (w * h)))), (0, wm_r G (96)), (1, .int (nI (n))), (2, .int (nI (y)))] dX10_turned_159 1 rfl (nI_inc _) (by decide) rfl ?_
                    refine wa_goto 48 dX10_turned_162 (by decide) ?_
                    refine wa_sub [0, 2, 3, 4, 5, 6] rfl ?_
                    first | rw [show wBits (fun k2 => if k2 < k then wAny (fun t2 => tnR C w h rn n y t2 k2) (t + 1) else wAny (fun t2 => tnR C w h rn n y t2 k2) t) (w * h) = wBits (fun k => wAny (fun t2 => tnR C w h rn n y t2 k) (t + 1)) (w * h) from by rw [show k = w * h by omega]; exact wBits_cong (fun j hj => if_pos hj)] | rw [show wAny (fun t2 => lvR C w h rn n (y - 1) t2 && lvR C w h rn n y t2) t = wAny (fun t2 => lvR C w h rn n (y - 1) t2 && lvR C w h rn n y t2) (t + 1) by rw [wAny_s, hl1]; simp, show wBits (fun k => wAny (fun t2 => tnR C w h rn n y t2 k) (t)) (w * h) = wBits (fun k => wAny (fun t2 => tnR C w h rn n y t2 k) (t + 1)) (w * h) from wBits_cong (fun j _ => by rw [wAny_s]; unfold tnR; rw [hl1]; simp)]
                    exact ih_48 (t + 1) (by omega) (by omega)
                  · refine wa_iload_n dX10_turned_111 rfl 3 rfl ?_
                    refine wa_aload_n dX10_turned_112 rfl 4 rfl ?_
                    refine wa_iload dX10_turned_113 0 rfl ?_
                    refine wa_cVi (x_isFixed C w h (hF1.stn hX) hW k (by omega)) vX10_isFixed iX10_turned_115 (rfl) rfl rfl rfl (Nat.le_of_ble_eq_true rfl) ⟨by decide, by decide⟩ ?_
                    refine wa_if_neB 150 dX10_turned_118 (by decide) (fun (c_118 : (sFix (C.1 18 k)) = true) => ?_) (fun (c_118 : (sFix (C.1 18 k)) = false) => ?_)
                    · have htn : tnR C w h rn n y t k = false := by unfold tnR; rw [c_118]; simp
                      refine wa_iconst (0) dX10_turned_150 (by decide) ?_
                      refine wa_ior dX10_turned_151 ?_
                      refine wa_eqi (y := (nI (wBits (fun k2 => if k2 < k + 1 then wAny (fun t2 => tnR C w h rn n y t2 k2) (t + 1) else wAny (fun t2 => tnR C w h rn n y t2 k2) t) (w * h)))) (by first | exact wBits_orI (k := k) (by omega) (by omega) (fun j _ => by by_cases q : j = k; (subst q; rw [if_pos (Nat.lt_succ_self j), if_neg (Nat.lt_irrefl j), wAny_s, htn]; simp); (rw [decide_eq_false q, Bool.or_false]; by_cases q2 : j < k; (rw [if_pos q2, if_pos (show j < k + 1 by omega)]); (rw [if_neg q2, if_neg (show ¬ j < k + 1 by omega)]))) | exact Int32.or_zero.trans (congrArg nI (wBits_cong (fun j _ => by by_cases q : j = k; (subst q; rw [if_pos (Nat.lt_succ_self j), if_neg (Nat.lt_irrefl j), wAny_s, htn]; simp); (by_cases q2 : j < k; (rw [if_pos q2, if_pos (show j < k + 1 by omega)]); (rw [if_neg q2, if_neg (show ¬ j < k + 1 by omega)])))))) ?_
                      refine wa_istore_n [(3, .int (nI (wBits (fun k2 => if k2 < k + 1 then wAny (fun t2 => tnR C w h rn n y t2 k2) (t + 1) else wAny (fun t2 => tnR C w h rn n y t2 k2) t) (w * h)))), (6, .int (nI (k))), (5, .int (nI (t))), (4, .int (wB (wAny (fun t2 => lvR C w h rn n (y - 1) t2 && lvR C w h rn n y t2) (t + 1)))), (0, wm_r G (96)), (1, .int (nI (n))), (2, .int (nI (y)))] dX10_turned_152 rfl (by decide) rfl ?_
                      refine wa_iinc ((nI (k + 1))) [(6, .int (nI (k + 1))), (3, .int (nI (wBits (fun k2 => if k2 < k + 1 then wAny (fun t2 => tnR C w h rn n y t2 k2) (t + 1) else wAny (fun t2 => tnR C w h rn n y t2 k2) t) (w * h)))), (5, .int (nI (t))), (4, .int (wB (wAny (fun t2 => lvR C w h rn n (y - 1) t2 && lvR C w h rn n y t2) (t + 1)))), (0, wm_r G (96)), (1, .int (nI (n))), (2, .int (nI (y)))] dX10_turned_153 1 rfl (nI_inc _) (by decide) rfl ?_
                      refine wa_goto 102 dX10_turned_156 (by decide) ?_
                      refine wa_sub [0, 2, 3, 1, 4, 5, 6] rfl ?_
                      exact ih_102 (k + 1) (by omega) (by omega)
                    · refine wa_aload_n dX10_turned_121 rfl 4 rfl ?_
                      refine wa_getr gX10_turned_122 (rfl) rfl ?_
                      refine wa_iload_n dX10_turned_125 rfl 6 rfl ?_
                      refine wa_aload_n dX10_turned_126 rfl 4 rfl ?_
                      refine wa_iload dX10_turned_127 1 rfl ?_
                      refine wa_iload dX10_turned_129 0 rfl ?_
                      refine wa_cVi (x_turnedOf C w h (hF1.stn hX) hW t (by omega) k (by omega)) vX10_turnedOf iX10_turned_131 (rfl) rfl rfl rfl (Nat.le_of_ble_eq_true rfl) ⟨by decide, by decide⟩ ?_
                      refine wa_eqi (y := (nI (sMv t k (sStep (C.1 18 k))))) (by rw [st_of c_118]) ?_
                      have hu := sMv_lt (m := sStep (C.1 18 k)) (show t < 4 ^ (w * h) by omega) (show k < w * h by omega)
                      refine wa_cSi (x_spot y (sMv t k (sStep (C.1 18 k)))) vX10_spot iX10_turned_134 rfl rfl (Nat.le_of_ble_eq_true rfl) ⟨by decide, by decide⟩ ?_
                      refine wa_laldN (e := 4096 * y + sMv t k (sStep (C.1 18 k))) dX10_turned_137 (rfl) (by omega) (by decide) ?_
                      refine wa_eql (y := lN (ONn C w h rn n (n - y) (sMv t k (sStep (C.1 18 k))))) (hon y (by omega) _ hu) ?_
                      have hb3 := ON_le (C := C) (rn := rn) (n := n) (d := n - y) hn6 (by omega) hu
                      refine wa_lconst (0) dX10_turned_138 (by decide) ?_
                      refine wa_lcmp dX10_turned_139 ?_
                      refine wa_if_le 150 dX10_turned_140 (by decide) (fun c_140 => ?_) (fun c_140 => ?_)
                      · have htn : tnR C w h rn n y t k = false := by unfold tnR; rw [show lvR C w h rn n y (sMv t k (sStep (C.1 18 k))) = false from by unfold lvR; exact decide_eq_false (by have := (lg_0 (by omega)).mp c_140; omega)]; simp
                        refine wa_iconst (0) dX10_turned_150 (by decide) ?_
                        refine wa_ior dX10_turned_151 ?_
                        refine wa_eqi (y := (nI (wBits (fun k2 => if k2 < k + 1 then wAny (fun t2 => tnR C w h rn n y t2 k2) (t + 1) else wAny (fun t2 => tnR C w h rn n y t2 k2) t) (w * h)))) (by first | exact wBits_orI (k := k) (by omega) (by omega) (fun j _ => by by_cases q : j = k; (subst q; rw [if_pos (Nat.lt_succ_self j), if_neg (Nat.lt_irrefl j), wAny_s, htn]; simp); (rw [decide_eq_false q, Bool.or_false]; by_cases q2 : j < k; (rw [if_pos q2, if_pos (show j < k + 1 by omega)]); (rw [if_neg q2, if_neg (show ¬ j < k + 1 by omega)]))) | exact Int32.or_zero.trans (congrArg nI (wBits_cong (fun j _ => by by_cases q : j = k; (subst q; rw [if_pos (Nat.lt_succ_self j), if_neg (Nat.lt_irrefl j), wAny_s, htn]; simp); (by_cases q2 : j < k; (rw [if_pos q2, if_pos (show j < k + 1 by omega)]); (rw [if_neg q2, if_neg (show ¬ j < k + 1 by omega)])))))) ?_
                        refine wa_istore_n [(3, .int (nI (wBits (fun k2 => if k2 < k + 1 then wAny (fun t2 => tnR C w h rn n y t2 k2) (t + 1) else wAny (fun t2 => tnR C w h rn n y t2 k2) t) (w * h)))), (6, .int (nI (k))), (5, .int (nI (t))), (4, .int (wB (wAny (fun t2 => lvR C w h rn n (y - 1) t2 && lvR C w h rn n y t2) (t + 1)))), (0, wm_r G (96)), (1, .int (nI (n))), (2, .int (nI (y)))] dX10_turned_152 rfl (by decide) rfl ?_
                        refine wa_iinc ((nI (k + 1))) [(6, .int (nI (k + 1))), (3, .int (nI (wBits (fun k2 => if k2 < k + 1 then wAny (fun t2 => tnR C w h rn n y t2 k2) (t + 1) else wAny (fun t2 => tnR C w h rn n y t2 k2) t) (w * h)))), (5, .int (nI (t))), (4, .int (wB (wAny (fun t2 => lvR C w h rn n (y - 1) t2 && lvR C w h rn n y t2) (t + 1)))), (0, wm_r G (96)), (1, .int (nI (n))), (2, .int (nI (y)))] dX10_turned_153 1 rfl (nI_inc _) (by decide) rfl ?_
                        refine wa_goto 102 dX10_turned_156 (by decide) ?_
                        refine wa_sub [0, 2, 3, 1, 4, 5, 6] rfl ?_
                        exact ih_102 (k + 1) (by omega) (by omega)
                      · have htn : tnR C w h rn n y t k = true := by unfold tnR; rw [hl1, c_118, show lvR C w h rn n y (sMv t k (sStep (C.1 18 k))) = true from by unfold lvR; exact decide_eq_true (Nat.pos_of_ne_zero (fun q => c_140 ((lg_0 (by omega)).mpr q)))]; rfl
                        refine wa_iconst (1) dX10_turned_143 (by decide) ?_
                        refine wa_iload dX10_turned_144 0 rfl ?_
                        refine wa_ishl dX10_turned_146 ?_
                        refine wa_goto 151 dX10_turned_147 (by decide) ?_
                        refine wa_ior dX10_turned_151 ?_
                        refine wa_eqi (y := (nI (wBits (fun k2 => if k2 < k + 1 then wAny (fun t2 => tnR C w h rn n y t2 k2) (t + 1) else wAny (fun t2 => tnR C w h rn n y t2 k2) t) (w * h)))) (by first | exact wBits_orI (k := k) (by omega) (by omega) (fun j _ => by by_cases q : j = k; (subst q; rw [if_pos (Nat.lt_succ_self j), if_neg (Nat.lt_irrefl j), wAny_s, htn]; simp); (rw [decide_eq_false q, Bool.or_false]; by_cases q2 : j < k; (rw [if_pos q2, if_pos (show j < k + 1 by omega)]); (rw [if_neg q2, if_neg (show ¬ j < k + 1 by omega)]))) | exact Int32.or_zero.trans (congrArg nI (wBits_cong (fun j _ => by by_cases q : j = k; (subst q; rw [if_pos (Nat.lt_succ_self j), if_neg (Nat.lt_irrefl j), wAny_s, htn]; simp); (by_cases q2 : j < k; (rw [if_pos q2, if_pos (show j < k + 1 by omega)]); (rw [if_neg q2, if_neg (show ¬ j < k + 1 by omega)])))))) ?_
                        refine wa_istore_n [(3, .int (nI (wBits (fun k2 => if k2 < k + 1 then wAny (fun t2 => tnR C w h rn n y t2 k2) (t + 1) else wAny (fun t2 => tnR C w h rn n y t2 k2) t) (w * h)))), (6, .int (nI (k))), (5, .int (nI (t))), (4, .int (wB (wAny (fun t2 => lvR C w h rn n (y - 1) t2 && lvR C w h rn n y t2) (t + 1)))), (0, wm_r G (96)), (1, .int (nI (n))), (2, .int (nI (y)))] dX10_turned_152 rfl (by decide) rfl ?_
                        refine wa_iinc ((nI (k + 1))) [(6, .int (nI (k + 1))), (3, .int (nI (wBits (fun k2 => if k2 < k + 1 then wAny (fun t2 => tnR C w h rn n y t2 k2) (t + 1) else wAny (fun t2 => tnR C w h rn n y t2 k2) t) (w * h)))), (5, .int (nI (t))), (4, .int (wB (wAny (fun t2 => lvR C w h rn n (y - 1) t2 && lvR C w h rn n y t2) (t + 1)))), (0, wm_r G (96)), (1, .int (nI (n))), (2, .int (nI (y)))] dX10_turned_153 1 rfl (nI_inc _) (by decide) rfl ?_
                        refine wa_goto 102 dX10_turned_156 (by decide) ?_
                        refine wa_sub [0, 2, 3, 1, 4, 5, 6] rfl ?_
                        exact ih_102 (k + 1) (by omega) (by omega)
              refine wa_sub [0, 2, 1, 3, 4, 5, 6] rfl ?_
              rw [show wBits (fun k => wAny (fun t2 => tnR C w h rn n y t2 k) (t)) (w * h) = wBits (fun k2 => if k2 < 0 then wAny (fun t2 => tnR C w h rn n y t2 k2) (t + 1) else wAny (fun t2 => tnR C w h rn n y t2 k2) t) (w * h) from wBits_cong (fun j _ => (if_neg (Nat.not_lt_zero j)).symm)]
              exact L_102 _ 0 (Nat.lt_succ_self _) (Nat.zero_le _)
            exact L_99  
          · have hl2 : lvR C w h rn n y t = true := by unfold lvR; exact decide_eq_true (Nat.pos_of_ne_zero (fun q => c_88 ((lg_0 (by omega)).mpr q)))
            refine wa_iconst (1) dX10_turned_91 (by decide) ?_
            refine wa_goto 97 dX10_turned_92 (by decide) ?_
            refine wa_eqi (y := (wB (wAny (fun t2 => lvR C w h rn n (y - 1) t2 && lvR C w h rn n y t2) (t + 1)))) (by rw [wAny_s, hl1, hl2]; simp [wB]) ?_
            refine wa_istore [(4, .int (wB (wAny (fun t2 => lvR C w h rn n (y - 1) t2 && lvR C w h rn n y t2) (t + 1)))), (5, .int (nI (t))), (3, .int (nI (wBits (fun k => wAny (fun t2 => tnR C w h rn n y t2 k) (t)) (w * h)))), (0, wm_r G (96)), (1, .int (nI (n))), (2, .int (nI (y)))] dX10_turned_97 (by decide) rfl ?_
            have L_99 : WA G t_X10_turned (fun v N => v = some (.int (nI (wBits (fun k => wAny (fun t2 => tnR C w h rn n y t2 k) (4 ^ (w * h))) (w * h)))) ∧ ∃ O, FrX M O ∧ N = xTell O (wB (wAny (fun t2 => lvR C w h rn n (y - 1) t2 && lvR C w h rn n y t2) (4 ^ (w * h))))) 99 [(4, .int (wB (wAny (fun t2 => lvR C w h rn n (y - 1) t2 && lvR C w h rn n y t2) (t + 1)))), (5, .int (nI (t))), (3, .int (nI (wBits (fun k => wAny (fun t2 => tnR C w h rn n y t2 k) (t)) (w * h)))), (0, wm_r G (96)), (1, .int (nI (n))), (2, .int (nI (y)))] [] (N1) := by
              refine wa_iconst (0) dX10_turned_99 (by decide) ?_
              refine wa_istore [(6, .int (0)), (4, .int (wB (wAny (fun t2 => lvR C w h rn n (y - 1) t2 && lvR C w h rn n y t2) (t + 1)))), (5, .int (nI (t))), (3, .int (nI (wBits (fun k => wAny (fun t2 => tnR C w h rn n y t2 k) (t)) (w * h)))), (0, wm_r G (96)), (1, .int (nI (n))), (2, .int (nI (y)))] dX10_turned_100 (by decide) rfl ?_
              have L_102 : ∀ (n_ : Nat) (k : Nat), (w * h - k) < n_ → (k ≤ w * h) → WA G t_X10_turned (fun v N => v = some (.int (nI (wBits (fun k => wAny (fun t2 => tnR C w h rn n y t2 k) (4 ^ (w * h))) (w * h)))) ∧ ∃ O, FrX M O ∧ N = xTell O (wB (wAny (fun t2 => lvR C w h rn n (y - 1) t2 && lvR C w h rn n y t2) (4 ^ (w * h))))) 102 [(6, .int (nI (k))), (5, .int (nI (t))), (4, .int (wB (wAny (fun t2 => lvR C w h rn n (y - 1) t2 && lvR C w h rn n y t2) (t + 1)))), (3, .int (nI (wBits (fun k2 => if k2 < k then wAny (fun t2 => tnR C w h rn n y t2 k2) (t + 1) else wAny (fun t2 => tnR C w h rn n y t2 k2) t) (w * h)))), (0, wm_r G (96)), (1, .int (nI (n))), (2, .int (nI (y)))] [] (N1) := by
                intro n_
                induction n_ with
                | zero => intro k h_; exact absurd h_ (Nat.not_lt_zero _)
                | succ n_ ih_102 =>
                  intro k h_ hk
                  refine wa_iload dX10_turned_102 0 rfl ?_
                  refine wa_aload_n dX10_turned_104 rfl 4 rfl ?_
                  refine wa_geti gX10_turned_105 (rfl) rfl ?_
                  refine wa_eqi (y := (nI (w * h))) (by rw [hF1.1 96 (by decide)]; exact x12) ?_
                  refine wa_icmp_geN (a := k) (b := w * h) 159 dX10_turned_108 (by decide) (by omega) (by omega) (fun c_108 => ?_) (fun c_108 => ?_)
                  · refine wa_iinc ((nI (t + 1))) [(5, .int (nI (t + 1))), (6, .int (nI (k))), (4, .int (wB (wAny (fun t2 => lvR C w h rn n (y - 1) t2 && lvR C w h rn n y t2) (t + 1)))), (3, .int (nI (wBits (fun k2 => if k2 < k then wAny (fun t2 => tnR C w h rn n y t2 k2) (t + 1) else wAny (fun t2 => tnR C w h rn n y t2 k2) t) (w * h)))), (0, wm_r G (96)), (1, .int (nI (n))), (2, .int (nI (y)))] dX10_turned_159 1 rfl (nI_inc _) (by decide) rfl ?_
                    refine wa_goto 48 dX10_turned_162 (by decide) ?_
                    refine wa_sub [0, 2, 3, 4, 5, 6] rfl ?_
                    first | rw [show wBits (fun k2 => if k2 < k then wAny (fun t2 => tnR C w h rn n y t2 k2) (t + 1) else wAny (fun t2 => tnR C w h rn n y t2 k2) t) (w * h) = wBits (fun k => wAny (fun t2 => tnR C w h rn n y t2 k) (t + 1)) (w * h) from by rw [show k = w * h by omega]; exact wBits_cong (fun j hj => if_pos hj)] | rw [show wAny (fun t2 => lvR C w h rn n (y - 1) t2 && lvR C w h rn n y t2) t = wAny (fun t2 => lvR C w h rn n (y - 1) t2 && lvR C w h rn n y t2) (t + 1) by rw [wAny_s, hl1]; simp, show wBits (fun k => wAny (fun t2 => tnR C w h rn n y t2 k) (t)) (w * h) = wBits (fun k => wAny (fun t2 => tnR C w h rn n y t2 k) (t + 1)) (w * h) from wBits_cong (fun j _ => by rw [wAny_s]; unfold tnR; rw [hl1]; simp)]
                    exact ih_48 (t + 1) (by omega) (by omega)
                  · refine wa_iload_n dX10_turned_111 rfl 3 rfl ?_
                    refine wa_aload_n dX10_turned_112 rfl 4 rfl ?_
                    refine wa_iload dX10_turned_113 0 rfl ?_
                    refine wa_cVi (x_isFixed C w h (hF1.stn hX) hW k (by omega)) vX10_isFixed iX10_turned_115 (rfl) rfl rfl rfl (Nat.le_of_ble_eq_true rfl) ⟨by decide, by decide⟩ ?_
                    refine wa_if_neB 150 dX10_turned_118 (by decide) (fun (c_118 : (sFix (C.1 18 k)) = true) => ?_) (fun (c_118 : (sFix (C.1 18 k)) = false) => ?_)
                    · have htn : tnR C w h rn n y t k = false := by unfold tnR; rw [c_118]; simp
                      refine wa_iconst (0) dX10_turned_150 (by decide) ?_
                      refine wa_ior dX10_turned_151 ?_
                      refine wa_eqi (y := (nI (wBits (fun k2 => if k2 < k + 1 then wAny (fun t2 => tnR C w h rn n y t2 k2) (t + 1) else wAny (fun t2 => tnR C w h rn n y t2 k2) t) (w * h)))) (by first | exact wBits_orI (k := k) (by omega) (by omega) (fun j _ => by by_cases q : j = k; (subst q; rw [if_pos (Nat.lt_succ_self j), if_neg (Nat.lt_irrefl j), wAny_s, htn]; simp); (rw [decide_eq_false q, Bool.or_false]; by_cases q2 : j < k; (rw [if_pos q2, if_pos (show j < k + 1 by omega)]); (rw [if_neg q2, if_neg (show ¬ j < k + 1 by omega)]))) | exact Int32.or_zero.trans (congrArg nI (wBits_cong (fun j _ => by by_cases q : j = k; (subst q; rw [if_pos (Nat.lt_succ_self j), if_neg (Nat.lt_irrefl j), wAny_s, htn]; simp); (by_cases q2 : j < k; (rw [if_pos q2, if_pos (show j < k + 1 by omega)]); (rw [if_neg q2, if_neg (show ¬ j < k + 1 by omega)])))))) ?_
                      refine wa_istore_n [(3, .int (nI (wBits (fun k2 => if k2 < k + 1 then wAny (fun t2 => tnR C w h rn n y t2 k2) (t + 1) else wAny (fun t2 => tnR C w h rn n y t2 k2) t) (w * h)))), (6, .int (nI (k))), (5, .int (nI (t))), (4, .int (wB (wAny (fun t2 => lvR C w h rn n (y - 1) t2 && lvR C w h rn n y t2) (t + 1)))), (0, wm_r G (96)), (1, .int (nI (n))), (2, .int (nI (y)))] dX10_turned_152 rfl (by decide) rfl ?_
                      refine wa_iinc ((nI (k + 1))) [(6, .int (nI (k + 1))), (3, .int (nI (wBits (fun k2 => if k2 < k + 1 then wAny (fun t2 => tnR C w h rn n y t2 k2) (t + 1) else wAny (fun t2 => tnR C w h rn n y t2 k2) t) (w * h)))), (5, .int (nI (t))), (4, .int (wB (wAny (fun t2 => lvR C w h rn n (y - 1) t2 && lvR C w h rn n y t2) (t + 1)))), (0, wm_r G (96)), (1, .int (nI (n))), (2, .int (nI (y)))] dX10_turned_153 1 rfl (nI_inc _) (by decide) rfl ?_
                      refine wa_goto 102 dX10_turned_156 (by decide) ?_
                      refine wa_sub [0, 2, 3, 1, 4, 5, 6] rfl ?_
                      exact ih_102 (k + 1) (by omega) (by omega)
                    · refine wa_aload_n dX10_turned_121 rfl 4 rfl ?_
                      refine wa_getr gX10_turned_122 (rfl) rfl ?_
                      refine wa_iload_n dX10_turned_125 rfl 6 rfl ?_
                      refine wa_aload_n dX10_turned_126 rfl 4 rfl ?_
                      refine wa_iload dX10_turned_127 1 rfl ?_
                      refine wa_iload dX10_turned_129 0 rfl ?_
                      refine wa_cVi (x_turnedOf C w h (hF1.stn hX) hW t (by omega) k (by omega)) vX10_turnedOf iX10_turned_131 (rfl) rfl rfl rfl (Nat.le_of_ble_eq_true rfl) ⟨by decide, by decide⟩ ?_
                      refine wa_eqi (y := (nI (sMv t k (sStep (C.1 18 k))))) (by rw [st_of c_118]) ?_
                      have hu := sMv_lt (m := sStep (C.1 18 k)) (show t < 4 ^ (w * h) by omega) (show k < w * h by omega)
                      refine wa_cSi (x_spot y (sMv t k (sStep (C.1 18 k)))) vX10_spot iX10_turned_134 rfl rfl (Nat.le_of_ble_eq_true rfl) ⟨by decide, by decide⟩ ?_
                      refine wa_laldN (e := 4096 * y + sMv t k (sStep (C.1 18 k))) dX10_turned_137 (rfl) (by omega) (by decide) ?_
                      refine wa_eql (y := lN (ONn C w h rn n (n - y) (sMv t k (sStep (C.1 18 k))))) (hon y (by omega) _ hu) ?_
                      have hb3 := ON_le (C := C) (rn := rn) (n := n) (d := n - y) hn6 (by omega) hu
                      refine wa_lconst (0) dX10_turned_138 (by decide) ?_
                      refine wa_lcmp dX10_turned_139 ?_
                      refine wa_if_le 150 dX10_turned_140 (by decide) (fun c_140 => ?_) (fun c_140 => ?_)
                      · have htn : tnR C w h rn n y t k = false := by unfold tnR; rw [show lvR C w h rn n y (sMv t k (sStep (C.1 18 k))) = false from by unfold lvR; exact decide_eq_false (by have := (lg_0 (by omega)).mp c_140; omega)]; simp
                        refine wa_iconst (0) dX10_turned_150 (by decide) ?_
                        refine wa_ior dX10_turned_151 ?_
                        refine wa_eqi (y := (nI (wBits (fun k2 => if k2 < k + 1 then wAny (fun t2 => tnR C w h rn n y t2 k2) (t + 1) else wAny (fun t2 => tnR C w h rn n y t2 k2) t) (w * h)))) (by first | exact wBits_orI (k := k) (by omega) (by omega) (fun j _ => by by_cases q : j = k; (subst q; rw [if_pos (Nat.lt_succ_self j), if_neg (Nat.lt_irrefl j), wAny_s, htn]; simp); (rw [decide_eq_false q, Bool.or_false]; by_cases q2 : j < k; (rw [if_pos q2, if_pos (show j < k + 1 by omega)]); (rw [if_neg q2, if_neg (show ¬ j < k + 1 by omega)]))) | exact Int32.or_zero.trans (congrArg nI (wBits_cong (fun j _ => by by_cases q : j = k; (subst q; rw [if_pos (Nat.lt_succ_self j), if_neg (Nat.lt_irrefl j), wAny_s, htn]; simp); (by_cases q2 : j < k; (rw [if_pos q2, if_pos (show j < k + 1 by omega)]); (rw [if_neg q2, if_neg (show ¬ j < k + 1 by omega)])))))) ?_
                        refine wa_istore_n [(3, .int (nI (wBits (fun k2 => if k2 < k + 1 then wAny (fun t2 => tnR C w h rn n y t2 k2) (t + 1) else wAny (fun t2 => tnR C w h rn n y t2 k2) t) (w * h)))), (6, .int (nI (k))), (5, .int (nI (t))), (4, .int (wB (wAny (fun t2 => lvR C w h rn n (y - 1) t2 && lvR C w h rn n y t2) (t + 1)))), (0, wm_r G (96)), (1, .int (nI (n))), (2, .int (nI (y)))] dX10_turned_152 rfl (by decide) rfl ?_
                        refine wa_iinc ((nI (k + 1))) [(6, .int (nI (k + 1))), (3, .int (nI (wBits (fun k2 => if k2 < k + 1 then wAny (fun t2 => tnR C w h rn n y t2 k2) (t + 1) else wAny (fun t2 => tnR C w h rn n y t2 k2) t) (w * h)))), (5, .int (nI (t))), (4, .int (wB (wAny (fun t2 => lvR C w h rn n (y - 1) t2 && lvR C w h rn n y t2) (t + 1)))), (0, wm_r G (96)), (1, .int (nI (n))), (2, .int (nI (y)))] dX10_turned_153 1 rfl (nI_inc _) (by decide) rfl ?_
                        refine wa_goto 102 dX10_turned_156 (by decide) ?_
                        refine wa_sub [0, 2, 3, 1, 4, 5, 6] rfl ?_
                        exact ih_102 (k + 1) (by omega) (by omega)
                      · have htn : tnR C w h rn n y t k = true := by unfold tnR; rw [hl1, c_118, show lvR C w h rn n y (sMv t k (sStep (C.1 18 k))) = true from by unfold lvR; exact decide_eq_true (Nat.pos_of_ne_zero (fun q => c_140 ((lg_0 (by omega)).mpr q)))]; rfl
                        refine wa_iconst (1) dX10_turned_143 (by decide) ?_
                        refine wa_iload dX10_turned_144 0 rfl ?_
                        refine wa_ishl dX10_turned_146 ?_
                        refine wa_goto 151 dX10_turned_147 (by decide) ?_
                        refine wa_ior dX10_turned_151 ?_
                        refine wa_eqi (y := (nI (wBits (fun k2 => if k2 < k + 1 then wAny (fun t2 => tnR C w h rn n y t2 k2) (t + 1) else wAny (fun t2 => tnR C w h rn n y t2 k2) t) (w * h)))) (by first | exact wBits_orI (k := k) (by omega) (by omega) (fun j _ => by by_cases q : j = k; (subst q; rw [if_pos (Nat.lt_succ_self j), if_neg (Nat.lt_irrefl j), wAny_s, htn]; simp); (rw [decide_eq_false q, Bool.or_false]; by_cases q2 : j < k; (rw [if_pos q2, if_pos (show j < k + 1 by omega)]); (rw [if_neg q2, if_neg (show ¬ j < k + 1 by omega)]))) | exact Int32.or_zero.trans (congrArg nI (wBits_cong (fun j _ => by by_cases q : j = k; (subst q; rw [if_pos (Nat.lt_succ_self j), if_neg (Nat.lt_irrefl j), wAny_s, htn]; simp); (by_cases q2 : j < k; (rw [if_pos q2, if_pos (show j < k + 1 by omega)]); (rw [if_neg q2, if_neg (show ¬ j < k + 1 by omega)])))))) ?_
                        refine wa_istore_n [(3, .int (nI (wBits (fun k2 => if k2 < k + 1 then wAny (fun t2 => tnR C w h rn n y t2 k2) (t + 1) else wAny (fun t2 => tnR C w h rn n y t2 k2) t) (w * h)))), (6, .int (nI (k))), (5, .int (nI (t))), (4, .int (wB (wAny (fun t2 => lvR C w h rn n (y - 1) t2 && lvR C w h rn n y t2) (t + 1)))), (0, wm_r G (96)), (1, .int (nI (n))), (2, .int (nI (y)))] dX10_turned_152 rfl (by decide) rfl ?_
                        refine wa_iinc ((nI (k + 1))) [(6, .int (nI (k + 1))), (3, .int (nI (wBits (fun k2 => if k2 < k + 1 then wAny (fun t2 => tnR C w h rn n y t2 k2) (t + 1) else wAny (fun t2 => tnR C w h rn n y t2 k2) t) (w * h)))), (5, .int (nI (t))), (4, .int (wB (wAny (fun t2 => lvR C w h rn n (y - 1) t2 && lvR C w h rn n y t2) (t + 1)))), (0, wm_r G (96)), (1, .int (nI (n))), (2, .int (nI (y)))] dX10_turned_153 1 rfl (nI_inc _) (by decide) rfl ?_
                        refine wa_goto 102 dX10_turned_156 (by decide) ?_
                        refine wa_sub [0, 2, 3, 1, 4, 5, 6] rfl ?_
                        exact ih_102 (k + 1) (by omega) (by omega)
              refine wa_sub [0, 2, 1, 3, 4, 5, 6] rfl ?_
              rw [show wBits (fun k => wAny (fun t2 => tnR C w h rn n y t2 k) (t)) (w * h) = wBits (fun k2 => if k2 < 0 then wAny (fun t2 => tnR C w h rn n y t2 k2) (t + 1) else wAny (fun t2 => tnR C w h rn n y t2 k2) t) (w * h) from wBits_cong (fun j _ => (if_neg (Nat.not_lt_zero j)).symm)]
              exact L_102 _ 0 (Nat.lt_succ_self _) (Nat.zero_le _)
            exact L_99  
  exact L_48 _ 0 (Nat.lt_succ_self _) (Nat.zero_le _)

theorem x_odds_bad1 {G : wm_G} {M : wm_M} (n k l : Int32) (hy : wIn n 10 = false) : MD G t_X10_odds [wm_r G (96), .int (n), .int (k), .int (l)] (M) (some (.int (-1))) (M) := by
  refine wm_met (by decide) (Nat.le_of_ble_eq_true rfl) ?_
  show WA G t_X10_odds (fun v_ N_ => v_ = some (.int (-1)) ∧ N_ = M) 0 [(0, wm_r G (96)), (1, .int (n)), (2, .int (k)), (3, .int (l))] [] (M)
  refine wa_iload_n dX10_odds_0 rfl 1 rfl ?_
  refine wa_cSi (x_areYears n) vX10_areYears iX10_odds_1 rfl rfl (Nat.le_of_ble_eq_true rfl) ⟨by decide, by decide⟩ ?_
  refine wa_eqi (y := (0)) (by rw [hy]; rfl) ?_
  refine wa_if_eq 23 dX10_odds_4 (by decide) (fun c_4 => ?_) (fun c_4 => absurd c_4 (by decide))
  refine wa_iconst (-1) dX10_odds_23 (by decide) ?_
  exact wa_iret dX10_odds_24 rfl ⟨congrArg (fun z => some (Value.int z)) (rfl), rfl⟩

theorem x_odds_bad2 {G : wm_G} {M : wm_M} (n : Nat) (hy : n < 10) (k l : Int32) (hp : k < 0 ∨ ¬ k ≤ nI n) : MD G t_X10_odds [wm_r G (96), .int (nI (n)), .int (k), .int (l)] (M) (some (.int (-1))) (M) := by
  refine wm_met (by decide) (Nat.le_of_ble_eq_true rfl) ?_
  show WA G t_X10_odds (fun v_ N_ => v_ = some (.int (-1)) ∧ N_ = M) 0 [(0, wm_r G (96)), (1, .int (nI (n))), (2, .int (k)), (3, .int (l))] [] (M)
  refine wa_iload_n dX10_odds_0 rfl 1 rfl ?_
  refine wa_cSi (x_areYears (nI n)) vX10_areYears iX10_odds_1 rfl rfl (Nat.le_of_ble_eq_true rfl) ⟨by decide, by decide⟩ ?_
  refine wa_eqi (y := (1)) (by rw [wIn_nI (by omega), decide_eq_true (by omega)]; rfl) ?_
  refine wa_if_eq 23 dX10_odds_4 (by decide) (fun c_4 => absurd c_4 (by decide)) (fun c_4 => ?_)
  refine wa_iload_n dX10_odds_7 rfl 2 rfl ?_
  refine wa_iconst (0) dX10_odds_8 (by decide) ?_
  refine wa_iload_n dX10_odds_9 rfl 1 rfl ?_
  refine wa_cSi (x_in k 0 (nI n)) vX10_in iX10_odds_10 rfl rfl (Nat.le_of_ble_eq_true rfl) ⟨by decide, by decide⟩ ?_
  refine wa_eqi (y := (0)) (by rw [show inC k 0 (nI n) = false from hp.elim (fun q => inC_lt q) (fun q => inC_gt q)]; rfl) ?_
  refine wa_if_eq 23 dX10_odds_13 (by decide) (fun c_13 => ?_) (fun c_13 => absurd c_13 (by decide))
  refine wa_iconst (-1) dX10_odds_23 (by decide) ?_
  exact wa_iret dX10_odds_24 rfl ⟨congrArg (fun z => some (Value.int z)) (rfl), rfl⟩

theorem x_odds_bad3 {G : wm_G} {M : wm_M} (n : Nat) (hy : n < 10) (y : Nat) (hyn : y ≤ n) (l : Int32) (hl : wIn l 4 = false) : MD G t_X10_odds [wm_r G (96), .int (nI (n)), .int (nI (y)), .int (l)] (M) (some (.int (-1))) (M) := by
  refine wm_met (by decide) (Nat.le_of_ble_eq_true rfl) ?_
  show WA G t_X10_odds (fun v_ N_ => v_ = some (.int (-1)) ∧ N_ = M) 0 [(0, wm_r G (96)), (1, .int (nI (n))), (2, .int (nI (y))), (3, .int (l))] [] (M)
  refine wa_iload_n dX10_odds_0 rfl 1 rfl ?_
  refine wa_cSi (x_areYears (nI n)) vX10_areYears iX10_odds_1 rfl rfl (Nat.le_of_ble_eq_true rfl) ⟨by decide, by decide⟩ ?_
  refine wa_eqi (y := (1)) (by rw [wIn_nI (by omega), decide_eq_true (by omega)]; rfl) ?_
  refine wa_if_eq 23 dX10_odds_4 (by decide) (fun c_4 => absurd c_4 (by decide)) (fun c_4 => ?_)
  refine wa_iload_n dX10_odds_7 rfl 2 rfl ?_
  refine wa_iconst (0) dX10_odds_8 (by decide) ?_
  refine wa_iload_n dX10_odds_9 rfl 1 rfl ?_
  refine wa_cSi (x_in (nI y) 0 (nI n)) vX10_in iX10_odds_10 rfl rfl (Nat.le_of_ble_eq_true rfl) ⟨by decide, by decide⟩ ?_
  refine wa_eqi (y := (1)) (by rw [show inC (nI y) 0 (nI n) = true from inC_t (nI_pos (by omega)) ((nI_leI (by omega) (by omega)).mpr hyn)]; rfl) ?_
  refine wa_if_eq 23 dX10_odds_13 (by decide) (fun c_13 => absurd c_13 (by decide)) (fun c_13 => ?_)
  refine wa_iload_n dX10_odds_16 rfl 3 rfl ?_
  refine wa_cSi (x_isLaw l) vX10_isLaw iX10_odds_17 rfl rfl (Nat.le_of_ble_eq_true rfl) ⟨by decide, by decide⟩ ?_
  refine wa_eqi (y := (0)) (by rw [hl]; rfl) ?_
  refine wa_if_ne 25 dX10_odds_20 (by decide) (fun c_20 => absurd c_20 (by decide)) (fun c_20 => ?_)
  refine wa_iconst (-1) dX10_odds_23 (by decide) ?_
  exact wa_iret dX10_odds_24 rfl ⟨congrArg (fun z => some (Value.int z)) (rfl), rfl⟩

theorem x_odds_no {G : wm_G} {M : wm_M} (n : Nat) (hy : n < 10) (y : Nat) (hyn : y ≤ n) (l : Nat) (hl : l < 4) (hz : M.1 109 l = -1) : MD G t_X10_odds [wm_r G (96), .int (nI (n)), .int (nI (y)), .int (nI (l))] (M) (some (.int (-3))) (xNote M 1) := by
  refine wm_met (by decide) (Nat.le_of_ble_eq_true rfl) ?_
  show WA G t_X10_odds (fun v_ N_ => v_ = some (.int (-3)) ∧ N_ = xNote M 1) 0 [(0, wm_r G (96)), (1, .int (nI (n))), (2, .int (nI (y))), (3, .int (nI (l)))] [] (M)
  refine wa_iload_n dX10_odds_0 rfl 1 rfl ?_
  refine wa_cSi (x_areYears (nI n)) vX10_areYears iX10_odds_1 rfl rfl (Nat.le_of_ble_eq_true rfl) ⟨by decide, by decide⟩ ?_
  refine wa_eqi (y := (1)) (by rw [wIn_nI (by omega), decide_eq_true (by omega)]; rfl) ?_
  refine wa_if_eq 23 dX10_odds_4 (by decide) (fun c_4 => absurd c_4 (by decide)) (fun c_4 => ?_)
  refine wa_iload_n dX10_odds_7 rfl 2 rfl ?_
  refine wa_iconst (0) dX10_odds_8 (by decide) ?_
  refine wa_iload_n dX10_odds_9 rfl 1 rfl ?_
  refine wa_cSi (x_in (nI y) 0 (nI n)) vX10_in iX10_odds_10 rfl rfl (Nat.le_of_ble_eq_true rfl) ⟨by decide, by decide⟩ ?_
  refine wa_eqi (y := (1)) (by rw [show inC (nI y) 0 (nI n) = true from inC_t (nI_pos (by omega)) ((nI_leI (by omega) (by omega)).mpr hyn)]; rfl) ?_
  refine wa_if_eq 23 dX10_odds_13 (by decide) (fun c_13 => absurd c_13 (by decide)) (fun c_13 => ?_)
  refine wa_iload_n dX10_odds_16 rfl 3 rfl ?_
  refine wa_cSi (x_isLaw (nI l)) vX10_isLaw iX10_odds_17 rfl rfl (Nat.le_of_ble_eq_true rfl) ⟨by decide, by decide⟩ ?_
  refine wa_eqi (y := (1)) (by rw [wIn_nI (by omega), decide_eq_true (by omega)]; rfl) ?_
  refine wa_if_ne 25 dX10_odds_20 (by decide) (fun c_20 => ?_) (fun c_20 => absurd c_20 (by decide))
  refine wa_aload_n dX10_odds_25 rfl 0 rfl ?_
  refine wa_getr gX10_odds_26 (rfl) rfl ?_
  refine wa_iload_n dX10_odds_29 rfl 3 rfl ?_
  refine wa_ialdN (e := l) dX10_odds_30 (rfl) (by omega) (by decide) ?_
  refine wa_eqi (y := (-1)) (hz) ?_
  refine wa_if_ge 40 dX10_odds_31 (by decide) (fun c_31 => absurd c_31 (by decide)) (fun c_31 => ?_)
  refine wa_aload_n dX10_odds_34 rfl 0 rfl ?_
  refine wa_iconst (1) dX10_odds_35 (by decide) ?_
  refine wa_cVi (x_meets 1 (by decide) (by decide)) vX10_meets iX10_odds_36 (rfl) rfl rfl rfl (Nat.le_of_ble_eq_true rfl) ⟨by decide, by decide⟩ ?_
  exact wa_iret dX10_odds_39 rfl ⟨congrArg (fun z => some (Value.int z)) (rfl), rfl⟩

theorem x_odds_nt {G : wm_G} {M : wm_M} (C : wm_M) (w h rn : Nat) (hX : xStn C M w h) (hW : TW C w h) (hRO : RecOk C w h rn) (hE : xEng C M w h rn) (n : Nat) (hy : n < 10) (y : Nat) (hyn : y ≤ n) (l : Nat) (hl : l < 4) (zl : Nat) (hzl : M.1 109 l = nI zl) (hzl9 : zl ≤ 3) (h0 : ONn C w h rn n n 0 = 0) : MA G t_X10_odds [wm_r G (96), .int (nI (n)), .int (nI (y)), .int (nI (l))] (M) (fun v N => v = some (.int (-3)) ∧ ∃ O, FrX M O ∧ N = xNote O 4) := by
  obtain ⟨x10, x11, x12, x103, x104, x105, x106⟩ := id hX
  have hn6 := TW_n hW
  have hw3 := hW.2.2.1
  have hh2 := hW.2.2.2
  have h4 := p4_le hn6
  have h40 : 0 < 4 ^ (w * h) := Nat.pow_pos (by decide)
  have hon9 := ON_le (C := C) (rn := rn) (n := n) (d := n) (t := 0) hn6 (by omega) h40
  refine wm_met (by decide) (Nat.le_of_ble_eq_true rfl) ?_
  show WA G t_X10_odds (fun v N => v = some (.int (-3)) ∧ ∃ O, FrX M O ∧ N = xNote O 4) 0 [(0, wm_r G (96)), (1, .int (nI (n))), (2, .int (nI (y))), (3, .int (nI (l)))] [] (M)
  refine wa_iload_n dX10_odds_0 rfl 1 rfl ?_
  refine wa_cSi (x_areYears (nI n)) vX10_areYears iX10_odds_1 rfl rfl (Nat.le_of_ble_eq_true rfl) ⟨by decide, by decide⟩ ?_
  refine wa_eqi (y := (1)) (by rw [wIn_nI (by omega), decide_eq_true (by omega)]; rfl) ?_
  refine wa_if_eq 23 dX10_odds_4 (by decide) (fun c_4 => absurd c_4 (by decide)) (fun c_4 => ?_)
  refine wa_iload_n dX10_odds_7 rfl 2 rfl ?_
  refine wa_iconst (0) dX10_odds_8 (by decide) ?_
  refine wa_iload_n dX10_odds_9 rfl 1 rfl ?_
  refine wa_cSi (x_in (nI y) 0 (nI n)) vX10_in iX10_odds_10 rfl rfl (Nat.le_of_ble_eq_true rfl) ⟨by decide, by decide⟩ ?_
  refine wa_eqi (y := (1)) (by rw [show inC (nI y) 0 (nI n) = true from inC_t (nI_pos (by omega)) ((nI_leI (by omega) (by omega)).mpr hyn)]; rfl) ?_
  refine wa_if_eq 23 dX10_odds_13 (by decide) (fun c_13 => absurd c_13 (by decide)) (fun c_13 => ?_)
  refine wa_iload_n dX10_odds_16 rfl 3 rfl ?_
  refine wa_cSi (x_isLaw (nI l)) vX10_isLaw iX10_odds_17 rfl rfl (Nat.le_of_ble_eq_true rfl) ⟨by decide, by decide⟩ ?_
  refine wa_eqi (y := (1)) (by rw [wIn_nI (by omega), decide_eq_true (by omega)]; rfl) ?_
  refine wa_if_ne 25 dX10_odds_20 (by decide) (fun c_20 => ?_) (fun c_20 => absurd c_20 (by decide))
  refine wa_aload_n dX10_odds_25 rfl 0 rfl ?_
  refine wa_getr gX10_odds_26 (rfl) rfl ?_
  refine wa_iload_n dX10_odds_29 rfl 3 rfl ?_
  refine wa_ialdN (e := l) dX10_odds_30 (rfl) (by omega) (by decide) ?_
  refine wa_eqi (y := (nI (zl))) (hzl) ?_
  refine wa_if_geN (a := zl) 40 dX10_odds_31 (by decide) (by omega) (fun c_31 => ?_) (fun c_31 => absurd c_31 (by omega))
  refine wa_aload_n dX10_odds_40 rfl 0 rfl ?_
  refine wa_iload_n dX10_odds_41 rfl 1 rfl ?_
  refine wa_callV (x_layHist C w h rn hX hW hRO hE n (by omega)) vX10_layHistories iX10_odds_42 (rfl) rfl rfl rfl (Nat.le_of_ble_eq_true rfl) ⟨by decide, by decide⟩ (fun v_ N1 h_ => ?_)
  obtain ⟨rfl, hF1, hfo, hon⟩ := h_
  show WA G t_X10_odds (fun v N => v = some (.int (-3)) ∧ ∃ O, FrX M O ∧ N = xNote O 4) 45 [(0, wm_r G (96)), (1, .int (nI (n))), (2, .int (nI (y))), (3, .int (nI (l)))] [] (N1)
  refine wa_aload_n dX10_odds_45 rfl 0 rfl ?_
  refine wa_getr gX10_odds_46 (rfl) rfl ?_
  refine wa_iconst (0) dX10_odds_49 (by decide) ?_
  refine wa_laldN (e := 0) dX10_odds_50 (rfl) (by omega) (by decide) ?_
  refine wa_eql (y := lN (ONn C w h rn n n 0)) (hon 0 (Nat.zero_le _) 0 h40) ?_
  refine wa_lconst (0) dX10_odds_51 (by decide) ?_
  refine wa_lcmp dX10_odds_52 ?_
  refine wa_if_ne 62 dX10_odds_53 (by decide) (fun c_53 => absurd ((lg_cmp0 (by omega)).mpr h0) c_53) (fun c_53 => ?_)
  refine wa_aload_n dX10_odds_56 rfl 0 rfl ?_
  refine wa_iconst (4) dX10_odds_57 (by decide) ?_
  refine wa_cVi (x_meets 4 (by decide) (by decide)) vX10_meets iX10_odds_58 (rfl) rfl rfl rfl (Nat.le_of_ble_eq_true rfl) ⟨by decide, by decide⟩ ?_
  refine wa_iret dX10_odds_61 rfl ?_
  exact ⟨rfl, N1, hF1.x, rfl⟩

theorem x_odds_ok {G : wm_G} {M : wm_M} (C : wm_M) (w h rn : Nat) (hX : xStn C M w h) (hW : TW C w h) (hRO : RecOk C w h rn) (hE : xEng C M w h rn) (hXL : xLaw C M) (hCL : cLaw C) (hCS : cStn C (w * h)) (n : Nat) (hy : n < 10) (y : Nat) (hyn : y ≤ n) (l : Nat) (hl : l < 4) (zl : Nat) (hzl : M.1 109 l = nI zl) (hzl9 : zl ≤ 3) (h0 : 0 < ONn C w h rn n n 0) : MA G t_X10_odds [wm_r G (96), .int (nI (n)), .int (nI (y)), .int (nI (l))] (M) (fun v N => v = some (.int 1) ∧ ∃ O, FrX M O ∧ N = xFr2 O (lN (wSum (odS C w h rn n y l) (4 ^ (w * h)) / Nat.gcd (wSum (odS C w h rn n y l) (4 ^ (w * h))) (ONn C w h rn n n 0))) (lN (ONn C w h rn n n 0 / Nat.gcd (wSum (odS C w h rn n y l) (4 ^ (w * h))) (ONn C w h rn n n 0)))) := by
  obtain ⟨x10, x11, x12, x103, x104, x105, x106⟩ := id hX
  have hn6 := TW_n hW
  have hw3 := hW.2.2.1
  have hh2 := hW.2.2.2
  have h4 := p4_le hn6
  have h40 : 0 < 4 ^ (w * h) := Nat.pow_pos (by decide)
  have hon9 := ON_le (C := C) (rn := rn) (n := n) (d := n) (t := 0) hn6 (by omega) h40
  refine wm_met (by decide) (Nat.le_of_ble_eq_true rfl) ?_
  show WA G t_X10_odds (fun v N => v = some (.int 1) ∧ ∃ O, FrX M O ∧ N = xFr2 O (lN (wSum (odS C w h rn n y l) (4 ^ (w * h)) / Nat.gcd (wSum (odS C w h rn n y l) (4 ^ (w * h))) (ONn C w h rn n n 0))) (lN (ONn C w h rn n n 0 / Nat.gcd (wSum (odS C w h rn n y l) (4 ^ (w * h))) (ONn C w h rn n n 0)))) 0 [(0, wm_r G (96)), (1, .int (nI (n))), (2, .int (nI (y))), (3, .int (nI (l)))] [] (M)
  refine wa_iload_n dX10_odds_0 rfl 1 rfl ?_
  refine wa_cSi (x_areYears (nI n)) vX10_areYears iX10_odds_1 rfl rfl (Nat.le_of_ble_eq_true rfl) ⟨by decide, by decide⟩ ?_
  refine wa_eqi (y := (1)) (by rw [wIn_nI (by omega), decide_eq_true (by omega)]; rfl) ?_
  refine wa_if_eq 23 dX10_odds_4 (by decide) (fun c_4 => absurd c_4 (by decide)) (fun c_4 => ?_)
  refine wa_iload_n dX10_odds_7 rfl 2 rfl ?_
  refine wa_iconst (0) dX10_odds_8 (by decide) ?_
  refine wa_iload_n dX10_odds_9 rfl 1 rfl ?_
  refine wa_cSi (x_in (nI y) 0 (nI n)) vX10_in iX10_odds_10 rfl rfl (Nat.le_of_ble_eq_true rfl) ⟨by decide, by decide⟩ ?_
  refine wa_eqi (y := (1)) (by rw [show inC (nI y) 0 (nI n) = true from inC_t (nI_pos (by omega)) ((nI_leI (by omega) (by omega)).mpr hyn)]; rfl) ?_
  refine wa_if_eq 23 dX10_odds_13 (by decide) (fun c_13 => absurd c_13 (by decide)) (fun c_13 => ?_)
  refine wa_iload_n dX10_odds_16 rfl 3 rfl ?_
  refine wa_cSi (x_isLaw (nI l)) vX10_isLaw iX10_odds_17 rfl rfl (Nat.le_of_ble_eq_true rfl) ⟨by decide, by decide⟩ ?_
  refine wa_eqi (y := (1)) (by rw [wIn_nI (by omega), decide_eq_true (by omega)]; rfl) ?_
  refine wa_if_ne 25 dX10_odds_20 (by decide) (fun c_20 => ?_) (fun c_20 => absurd c_20 (by decide))
  refine wa_aload_n dX10_odds_25 rfl 0 rfl ?_
  refine wa_getr gX10_odds_26 (rfl) rfl ?_
  refine wa_iload_n dX10_odds_29 rfl 3 rfl ?_
  refine wa_ialdN (e := l) dX10_odds_30 (rfl) (by omega) (by decide) ?_
  refine wa_eqi (y := (nI (zl))) (hzl) ?_
  refine wa_if_geN (a := zl) 40 dX10_odds_31 (by decide) (by omega) (fun c_31 => ?_) (fun c_31 => absurd c_31 (by omega))
  refine wa_aload_n dX10_odds_40 rfl 0 rfl ?_
  refine wa_iload_n dX10_odds_41 rfl 1 rfl ?_
  refine wa_callV (x_layHist C w h rn hX hW hRO hE n (by omega)) vX10_layHistories iX10_odds_42 (rfl) rfl rfl rfl (Nat.le_of_ble_eq_true rfl) ⟨by decide, by decide⟩ (fun v_ N1 h_ => ?_)
  obtain ⟨rfl, hF1, hfo, hon⟩ := h_
  show WA G t_X10_odds (fun v N => v = some (.int 1) ∧ ∃ O, FrX M O ∧ N = xFr2 O (lN (wSum (odS C w h rn n y l) (4 ^ (w * h)) / Nat.gcd (wSum (odS C w h rn n y l) (4 ^ (w * h))) (ONn C w h rn n n 0))) (lN (ONn C w h rn n n 0 / Nat.gcd (wSum (odS C w h rn n y l) (4 ^ (w * h))) (ONn C w h rn n n 0)))) 45 [(0, wm_r G (96)), (1, .int (nI (n))), (2, .int (nI (y))), (3, .int (nI (l)))] [] (N1)
  refine wa_aload_n dX10_odds_45 rfl 0 rfl ?_
  refine wa_getr gX10_odds_46 (rfl) rfl ?_
  refine wa_iconst (0) dX10_odds_49 (by decide) ?_
  refine wa_laldN (e := 0) dX10_odds_50 (rfl) (by omega) (by decide) ?_
  refine wa_eql (y := lN (ONn C w h rn n n 0)) (hon 0 (Nat.zero_le _) 0 h40) ?_
  refine wa_lconst (0) dX10_odds_51 (by decide) ?_
  refine wa_lcmp dX10_odds_52 ?_
  refine wa_if_ne 62 dX10_odds_53 (by decide) (fun c_53 => ?_) (fun c_53 => absurd ((lg_cmp0 (by omega)).mp c_53) (by omega))
  refine wa_aload_n dX10_odds_62 rfl 0 rfl ?_
  refine wa_iconst (1) dX10_odds_63 (by decide) ?_
  refine wa_eqi (y := (wB (true))) (rfl) ?_
  refine wa_callV (x_layStands (M := N1) C w h (hF1.stn hX) hW (hF1.law hXL) hCL hCS true (fun _ => true) (fun t ht => ⟨fun _ => rfl, fun q => (by cases q)⟩)) vX10_layStands iX10_odds_64 (rfl) rfl rfl rfl (Nat.le_of_ble_eq_true rfl) ⟨by decide, by decide⟩ (fun v_ N2 h_ => ?_)
  obtain ⟨rfl, hF2, hst⟩ := h_
  show WA G t_X10_odds (fun v N => v = some (.int 1) ∧ ∃ O, FrX M O ∧ N = xFr2 O (lN (wSum (odS C w h rn n y l) (4 ^ (w * h)) / Nat.gcd (wSum (odS C w h rn n y l) (4 ^ (w * h))) (ONn C w h rn n n 0))) (lN (ONn C w h rn n n 0 / Nat.gcd (wSum (odS C w h rn n y l) (4 ^ (w * h))) (ONn C w h rn n n 0)))) 67 [(0, wm_r G (96)), (1, .int (nI (n))), (2, .int (nI (y))), (3, .int (nI (l)))] [] (N2)
  have hxx2 : FrX M N2 := hF1.x.tr hF2.n.x
  have h12 : N2.1 96 12 = nI (w * h) := by rw [hF2.1 96 (by decide) (by decide), hF1.1 96 (by decide)]; exact x12
  have hX2 := hF2.n.stn (hF1.stn hX)
  have h115 : ∀ t, t < 4 ^ (w * h) → N2.1 115 t = nI (stdN C w h t) := fun t ht => hst t ht rfl
  have hon2 : ∀ y, y ≤ n → ∀ t, t < 4 ^ (w * h) → N2.2.1 121 (4096 * y + t) = lN (ONn C w h rn n (n - y) t) := fun y hy t ht => by rw [hF2.2]; exact hon y hy t ht
  have hfo2 : ∀ y, y ≤ n → ∀ t, t < 4 ^ (w * h) → N2.2.1 120 (4096 * y + t) = lN (FWn C w h rn y t) := fun y hy t ht => by rw [hF2.2]; exact hfo y hy t ht
  refine wa_lconst (0) dX10_odds_67 (by decide) ?_
  refine wa_eql (y := lN (wSum (odS C w h rn n y l) 0)) (rfl) ?_
  refine wa_lstore [(4, .long (lN (wSum (odS C w h rn n y l) 0))), (0, wm_r G (96)), (1, .int (nI (n))), (2, .int (nI (y))), (3, .int (nI (l)))] dX10_odds_68 (by decide) rfl ?_
  refine wa_iconst (0) dX10_odds_70 (by decide) ?_
  refine wa_istore [(6, .int (0)), (4, .long (lN (wSum (odS C w h rn n y l) 0))), (0, wm_r G (96)), (1, .int (nI (n))), (2, .int (nI (y))), (3, .int (nI (l)))] dX10_odds_71 (by decide) rfl ?_
  have L_73 : ∀ (n_ : Nat) (t : Nat), (4 ^ (w * h) - t) < n_ → (t ≤ 4 ^ (w * h)) → WA G t_X10_odds (fun v N => v = some (.int 1) ∧ ∃ O, FrX M O ∧ N = xFr2 O (lN (wSum (odS C w h rn n y l) (4 ^ (w * h)) / Nat.gcd (wSum (odS C w h rn n y l) (4 ^ (w * h))) (ONn C w h rn n n 0))) (lN (ONn C w h rn n n 0 / Nat.gcd (wSum (odS C w h rn n y l) (4 ^ (w * h))) (ONn C w h rn n n 0)))) 73 [(6, .int (nI (t))), (4, .long (lN (wSum (odS C w h rn n y l) t))), (0, wm_r G (96)), (1, .int (nI (n))), (2, .int (nI (y))), (3, .int (nI (l)))] [] (N2) := by
    intro n_
    induction n_ with
    | zero => intro t h_; exact absurd h_ (Nat.not_lt_zero _)
    | succ n_ ih_73 =>
      intro t h_ ht
      refine wa_iload dX10_odds_73 0 rfl ?_
      refine wa_aload_n dX10_odds_75 rfl 2 rfl ?_
      refine wa_cVi (x_stateMany (w * h) hn6 h12) vX10_stateMany iX10_odds_76 (rfl) rfl rfl rfl (Nat.le_of_ble_eq_true rfl) ⟨by decide, by decide⟩ ?_
      refine wa_icmp_geN (a := t) (b := 4 ^ (w * h)) 134 dX10_odds_79 (by decide) (by omega) (by omega) (fun c_79 => ?_) (fun c_79 => ?_)
      · refine wa_aload_n dX10_odds_134 rfl 2 rfl ?_
        refine wa_lload dX10_odds_135 1 rfl ?_
        refine wa_eql (y := lN (wSum (odS C w h rn n y l) (4 ^ (w * h)))) (by rw [show t = 4 ^ (w * h) by omega]) ?_
        refine wa_aload_n dX10_odds_137 rfl 2 rfl ?_
        refine wa_getr gX10_odds_138 (rfl) rfl ?_
        refine wa_iconst (0) dX10_odds_141 (by decide) ?_
        refine wa_laldN (e := 0) dX10_odds_142 (rfl) (by omega) (by decide) ?_
        refine wa_eql (y := lN (ONn C w h rn n n 0)) (hon2 0 (Nat.zero_le _) 0 h40) ?_
        refine wa_iconst (1) dX10_odds_143 (by decide) ?_
        refine wa_cVi (x_frac (wSum (odS C w h rn n y l) (4 ^ (w * h))) (ONn C w h rn n n 0) 1 (odS_le hn6 hyn (by omega) (Nat.le_refl _)) (by omega) h0) vX10_fraction iX10_odds_144 (rfl) rfl rfl rfl (Nat.le_of_ble_eq_true rfl) ⟨by decide, by decide⟩ ?_
        refine wa_iret dX10_odds_147 rfl ?_
        exact ⟨rfl, N2, hxx2, rfl⟩
      · refine wa_lload dX10_odds_82 1 rfl ?_
        refine wa_aload_n dX10_odds_84 rfl 2 rfl ?_
        refine wa_getr gX10_odds_85 (rfl) rfl ?_
        refine wa_iload dX10_odds_88 0 rfl ?_
        refine wa_ialdN (e := t) dX10_odds_90 (rfl) (by omega) (by decide) ?_
        refine wa_eqi (y := (nI (stdN C w h t))) (h115 t (by omega)) ?_
        refine wa_iload_n dX10_odds_91 rfl 5 rfl ?_
        refine wa_cSi (x_has (stdN C w h t) l (by have := stdN_lt C w h t; omega) (by omega)) vX10_has iX10_odds_92 rfl rfl (Nat.le_of_ble_eq_true rfl) ⟨by decide, by decide⟩ ?_
        refine wa_eqi (y := (wB (ctF C w h l t))) (congrArg wB (by unfold stdN; rw [wBits_bit, decide_eq_true hl]; rfl)) ?_
        refine wa_if_eqB 124 dX10_odds_95 (by decide) (fun (c_95 : (ctF C w h l t) = false) => ?_) (fun (c_95 : (ctF C w h l t) = true) => ?_)
        · refine wa_lconst (0) dX10_odds_124 (by decide) ?_
          refine wa_ladd dX10_odds_125 ?_
          refine wa_eql (y := lN (wSum (odS C w h rn n y l) (t + 1))) (by simp only [wSum]; unfold odS; rw [show ctF C w h l t = _ from c_95]; first | (rw [lN_mul]; exact lN_add _ _) | exact lN_add _ 0) ?_
          refine wa_lstore [(4, .long (lN (wSum (odS C w h rn n y l) (t + 1)))), (6, .int (nI (t))), (0, wm_r G (96)), (1, .int (nI (n))), (2, .int (nI (y))), (3, .int (nI (l)))] dX10_odds_126 (by decide) rfl ?_
          refine wa_iinc ((nI (t + 1))) [(6, .int (nI (t + 1))), (4, .long (lN (wSum (odS C w h rn n y l) (t + 1)))), (0, wm_r G (96)), (1, .int (nI (n))), (2, .int (nI (y))), (3, .int (nI (l)))] dX10_odds_128 1 rfl (nI_inc _) (by decide) rfl ?_
          refine wa_goto 73 dX10_odds_131 (by decide) ?_
          exact ih_73 (t + 1) (by omega) (by omega)
        · refine wa_aload_n dX10_odds_98 rfl 2 rfl ?_
          refine wa_getr gX10_odds_99 (rfl) rfl ?_
          refine wa_iload_n dX10_odds_102 rfl 4 rfl ?_
          refine wa_iload dX10_odds_103 0 rfl ?_
          refine wa_cSi (x_spot y t) vX10_spot iX10_odds_105 rfl rfl (Nat.le_of_ble_eq_true rfl) ⟨by decide, by decide⟩ ?_
          refine wa_laldN (e := 4096 * y + t) dX10_odds_108 (rfl) (by omega) (by decide) ?_
          refine wa_eql (y := lN (FWn C w h rn y t)) (hfo2 y (by omega) t (by omega)) ?_
          refine wa_aload_n dX10_odds_109 rfl 2 rfl ?_
          refine wa_getr gX10_odds_110 (rfl) rfl ?_
          refine wa_iload_n dX10_odds_113 rfl 4 rfl ?_
          refine wa_iload dX10_odds_114 0 rfl ?_
          refine wa_cSi (x_spot y t) vX10_spot iX10_odds_116 rfl rfl (Nat.le_of_ble_eq_true rfl) ⟨by decide, by decide⟩ ?_
          refine wa_laldN (e := 4096 * y + t) dX10_odds_119 (rfl) (by omega) (by decide) ?_
          refine wa_eql (y := lN (ONn C w h rn n (n - y) t)) (hon2 y (by omega) t (by omega)) ?_
          refine wa_lmul dX10_odds_120 ?_
          refine wa_goto 125 dX10_odds_121 (by decide) ?_
          refine wa_ladd dX10_odds_125 ?_
          refine wa_eql (y := lN (wSum (odS C w h rn n y l) (t + 1))) (by simp only [wSum]; unfold odS; rw [show ctF C w h l t = _ from c_95]; first | (rw [lN_mul]; exact lN_add _ _) | exact lN_add _ 0) ?_
          refine wa_lstore [(4, .long (lN (wSum (odS C w h rn n y l) (t + 1)))), (6, .int (nI (t))), (0, wm_r G (96)), (1, .int (nI (n))), (2, .int (nI (y))), (3, .int (nI (l)))] dX10_odds_126 (by decide) rfl ?_
          refine wa_iinc ((nI (t + 1))) [(6, .int (nI (t + 1))), (4, .long (lN (wSum (odS C w h rn n y l) (t + 1)))), (0, wm_r G (96)), (1, .int (nI (n))), (2, .int (nI (y))), (3, .int (nI (l)))] dX10_odds_128 1 rfl (nI_inc _) (by decide) rfl ?_
          refine wa_goto 73 dX10_odds_131 (by decide) ?_
          exact ih_73 (t + 1) (by omega) (by omega)
  exact L_73 _ 0 (Nat.lt_succ_self _) (Nat.zero_le _)
