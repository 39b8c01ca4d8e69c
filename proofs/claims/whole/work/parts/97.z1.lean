theorem x_layLine {G : wm_G} {M : wm_M} (C : wm_M) (w h : Nat) (hX : xStn C M w h) (hW : TW C w h) (s : Nat) (hQ : ∀ k, k < w * h → M.1 107 k = nI (sQ s k)) (hs : hadS C (w * h) s) (t : Nat) (ht : hadS C (w * h) t) : MD G t_X10_layLine [wm_r G (96), .int (nI (t))] (M) (none) (lnM M (lnF (C.1 18) (w * h) s t) (dst (C.1 18) (w * h) s t)) := by
  obtain ⟨x10, x11, x12, x103, x104, x105, x106⟩ := id hX
  have hn6 := TW_n hW
  have hw3 := hW.2.2.1
  have hh2 := hW.2.2.2
  have h4 := p4_le hn6
  have ht4 : t < 4096 := Nat.lt_of_lt_of_le ht.1 h4
  refine wm_met (by decide) (Nat.le_of_ble_eq_true rfl) ?_
  show WA G t_X10_layLine (fun v_ N_ => v_ = none ∧ N_ = lnM M (lnF (C.1 18) (w * h) s t) (dst (C.1 18) (w * h) s t)) 0 [(0, wm_r G (96)), (1, .int (nI (t)))] [] (M)
  refine wa_aload_n dX10_layLine_0 rfl 0 rfl ?_
  refine wa_iconst (0) dX10_layLine_1 (by decide) ?_
  refine wa_puti gX10_layLine_2 (rfl) rfl ?_
  refine wa_eqm (M' := lnM M (lnF (C.1 18) (w * h) s t) (wSum (tbt (C.1 18) s t) 0)) (lnM_0) ?_
  refine wa_iconst (0) dX10_layLine_5 (by decide) ?_
  refine wa_istore_n [(2, .int (0)), (0, wm_r G (96)), (1, .int (nI (t)))] dX10_layLine_6 rfl (by decide) rfl ?_
  have L_7 : ∀ (n_ : Nat) (k : Nat), (w * h - k) < n_ → (k ≤ w * h) → WA G t_X10_layLine (fun v_ N_ => v_ = none ∧ N_ = lnM M (lnF (C.1 18) (w * h) s t) (dst (C.1 18) (w * h) s t)) 7 [(2, .int (nI (k))), (0, wm_r G (96)), (1, .int (nI (t)))] [] (lnM M (lnF (C.1 18) (w * h) s t) (wSum (tbt (C.1 18) s t) k)) := by
    intro n_
    induction n_ with
    | zero => intro k h_; exact absurd h_ (Nat.not_lt_zero _)
    | succ n_ ih_7 =>
      intro k h_ hk
      have hXl : xStn C (lnM M (lnF (C.1 18) (w * h) s t) (wSum (tbt (C.1 18) s t) k)) w h := lnM_stn hX
      refine wa_iload_n dX10_layLine_7 rfl 0 rfl ?_
      refine wa_aload_n dX10_layLine_8 rfl 1 rfl ?_
      refine wa_geti gX10_layLine_9 (rfl) rfl ?_
      refine wa_eqi (y := (nI (w * h))) (by rw [lnM_p (by decide)]; exact x12) ?_
      refine wa_icmp_geN (a := k) (b := w * h) 75 dX10_layLine_12 (by decide) (by omega) (by omega) (fun c_12 => ?_) (fun c_12 => ?_)
      · exact wa_vret dX10_layLine_75 rfl ⟨rfl, by rw [show k = w * h by omega]; rfl⟩
      · refine wa_aload_n dX10_layLine_15 rfl 1 rfl ?_
        refine wa_iload_n dX10_layLine_16 rfl 0 rfl ?_
        refine wa_aload_n dX10_layLine_17 rfl 1 rfl ?_
        refine wa_getr gX10_layLine_18 (rfl) rfl ?_
        refine wa_iload_n dX10_layLine_21 rfl 0 rfl ?_
        refine wa_ialdN (e := k) dX10_layLine_22 (rfl) (by omega) (by decide) ?_
        refine wa_eqi (y := (nI (sQ s k))) (by rw [lnM_c (by decide) (by decide)]; exact hQ k (by omega)) ?_
        refine wa_iload_n dX10_layLine_23 rfl 2 rfl ?_
        refine wa_iconst (2) dX10_layLine_24 (by decide) ?_
        refine wa_iload_n dX10_layLine_25 rfl 0 rfl ?_
        refine wa_imulN (a := 2) (b := k) dX10_layLine_26 ?_
        refine wa_ishr dX10_layLine_27 ?_
        refine wa_eqi (y := (nI (t / 2 ^ (2 * k)))) (nI_shr (by omega) (by omega)) ?_
        refine wa_iconst (3) dX10_layLine_28 (by decide) ?_
        refine wa_iand dX10_layLine_29 ?_
        refine wa_eqi (y := (nI (sQ t k))) (by rw [nI_and3 (Nat.lt_of_le_of_lt (Nat.div_le_self _ _) (by omega)), p4]; rfl) ?_
        refine wa_cVi (x_turnsBy (M := lnM M (lnF (C.1 18) (w * h) s t) (wSum (tbt (C.1 18) s t) k)) C w h hXl hW k (by omega) (sQ s k) (sQ t k) (sQ_lt _ _) (sQ_lt _ _)) vX10_turnsBy iX10_layLine_30 (rfl) rfl rfl rfl (Nat.le_of_ble_eq_true rfl) ⟨by decide, by decide⟩ ?_
        refine wa_eqi (y := (nI (tbt (C.1 18) s t k))) ((tbI_eq ((hdB_iff hn6 hs.1).mp hs.2 k (by omega))).trans (if_pos ((hdB_iff hn6 ht.1).mp ht.2 k (by omega)))) ?_
        have h3 := tbt_3 (kd := C.1 18) (s := s) (t := t) (k := k)
        have hk18 := dst_24 (kd := C.1 18) (s := s) (t := t) (show k + 1 ≤ w * h by omega) (dst18 hn6)
        simp only [wSum] at hk18
        refine wa_istore_n [(3, .int (nI (tbt (C.1 18) s t k))), (2, .int (nI (k))), (0, wm_r G (96)), (1, .int (nI (t)))] dX10_layLine_33 rfl (by decide) rfl ?_
        refine wa_iconst (0) dX10_layLine_34 (by decide) ?_
        refine wa_istore [(4, .int (0)), (3, .int (nI (tbt (C.1 18) s t k))), (2, .int (nI (k))), (0, wm_r G (96)), (1, .int (nI (t)))] dX10_layLine_35 (by decide) rfl ?_
        have L_37 : ∀ (n_ : Nat) (q : Nat), (tbt (C.1 18) s t k - q) < n_ → (q ≤ tbt (C.1 18) s t k) → WA G t_X10_layLine (fun v_ N_ => v_ = none ∧ N_ = lnM M (lnF (C.1 18) (w * h) s t) (dst (C.1 18) (w * h) s t)) 37 [(4, .int (nI (q))), (3, .int (nI (tbt (C.1 18) s t k))), (2, .int (nI (k))), (0, wm_r G (96)), (1, .int (nI (t)))] [] (lnM M (lnF (C.1 18) (w * h) s t) (wSum (tbt (C.1 18) s t) k + q)) := by
          intro n_
          induction n_ with
          | zero => intro q h_; exact absurd h_ (Nat.not_lt_zero _)
          | succ n_ ih_37 =>
            intro q h_ hq
            refine wa_iload dX10_layLine_37 0 rfl ?_
            refine wa_iload_n dX10_layLine_39 rfl 1 rfl ?_
            refine wa_icmp_geN (a := q) (b := tbt (C.1 18) s t k) 69 dX10_layLine_40 (by decide) (by omega) (by omega) (fun c_40 => ?_) (fun c_40 => ?_)
            · refine wa_iinc ((nI (k + 1))) [(2, .int (nI (k + 1))), (4, .int (nI (q))), (3, .int (nI (tbt (C.1 18) s t k))), (0, wm_r G (96)), (1, .int (nI (t)))] dX10_layLine_69 2 rfl (nI_inc _) (by decide) rfl ?_
              refine wa_goto 7 dX10_layLine_72 (by decide) ?_
              refine wa_sub [0, 3, 4] rfl ?_
              rw [show wSum (tbt (C.1 18) s t) k + q = wSum (tbt (C.1 18) s t) (k + 1) by simp only [wSum]; omega]
              exact ih_7 (k + 1) (by omega) (by omega)
            · refine wa_aload_n dX10_layLine_43 rfl 3 rfl ?_
              refine wa_getr gX10_layLine_44 (rfl) rfl ?_
              refine wa_aload_n dX10_layLine_47 rfl 3 rfl ?_
              refine wa_geti gX10_layLine_48 (rfl) rfl ?_
              refine wa_eqi (y := (nI (wSum (tbt (C.1 18) s t) k + q))) (lnM_33) ?_
              refine wa_iload_n dX10_layLine_51 rfl 2 rfl ?_
              refine wa_iastN (e := wSum (tbt (C.1 18) s t) k + q) dX10_layLine_52 (rfl) (by omega) (by decide) ?_
              refine wa_aload_n dX10_layLine_53 rfl 3 rfl ?_
              refine wa_dup dX10_layLine_54 rfl ?_
              refine wa_geti gX10_layLine_55 (rfl) rfl ?_
              refine wa_eqi (y := (nI (wSum (tbt (C.1 18) s t) k + q))) (by rw [wI_c (by decide)]; exact lnM_33) ?_
              refine wa_iconst (1) dX10_layLine_58 (by decide) ?_
              refine wa_iaddN (a := wSum (tbt (C.1 18) s t) k + q) (b := 1) dX10_layLine_59 ?_
              refine wa_puti gX10_layLine_60 (rfl) rfl ?_
              refine wa_eqm (M' := lnM M (lnF (C.1 18) (w * h) s t) (wSum (tbt (C.1 18) s t) k + (q + 1))) (lnM_s (ln_at (by omega) (by omega)).symm) ?_
              refine wa_iinc ((nI (q + 1))) [(4, .int (nI (q + 1))), (3, .int (nI (tbt (C.1 18) s t k))), (2, .int (nI (k))), (0, wm_r G (96)), (1, .int (nI (t)))] dX10_layLine_63 0 rfl (nI_inc _) (by decide) rfl ?_
              refine wa_goto 37 dX10_layLine_66 (by decide) ?_
              exact ih_37 (q + 1) (by omega) (by omega)
        exact L_37 _ 0 (Nat.lt_succ_self _) (Nat.zero_le _)
  exact L_7 _ 0 (Nat.lt_succ_self _) (Nat.zero_le _)

theorem x_way_bad1 {G : wm_G} {M : wm_M} (set r : Int32) (hset : wIn set 16 = false) : MD G t_X10_way [wm_r G (96), .int (set), .int (r)] (M) (some (.int (-1))) (M) := by
  refine wm_met (by decide) (Nat.le_of_ble_eq_true rfl) ?_
  show WA G t_X10_way (fun v_ N_ => v_ = some (.int (-1)) ∧ N_ = M) 0 [(0, wm_r G (96)), (1, .int (set)), (2, .int (r))] [] (M)
  refine wa_iload_n dX10_way_0 rfl 1 rfl ?_
  refine wa_cSi (x_isSet set) vX10_isSet iX10_way_1 rfl rfl (Nat.le_of_ble_eq_true rfl) ⟨by decide, by decide⟩ ?_
  refine wa_eqi (y := (0)) (by rw [hset]; rfl) ?_
  refine wa_if_eq 14 dX10_way_4 (by decide) (fun c_4 => ?_) (fun c_4 => absurd c_4 (by decide))
  refine wa_iconst (-1) dX10_way_14 (by decide) ?_
  exact wa_iret dX10_way_15 rfl ⟨congrArg (fun z => some (Value.int z)) (rfl), rfl⟩

theorem x_way_bad2 {G : wm_G} {M : wm_M} (set : Nat) (hset : set < 16) (r : Int32) (hr : wIn r 6 = false) : MD G t_X10_way [wm_r G (96), .int (nI (set)), .int (r)] (M) (some (.int (-1))) (M) := by
  refine wm_met (by decide) (Nat.le_of_ble_eq_true rfl) ?_
  show WA G t_X10_way (fun v_ N_ => v_ = some (.int (-1)) ∧ N_ = M) 0 [(0, wm_r G (96)), (1, .int (nI (set))), (2, .int (r))] [] (M)
  refine wa_iload_n dX10_way_0 rfl 1 rfl ?_
  refine wa_cSi (x_isSet (nI set)) vX10_isSet iX10_way_1 rfl rfl (Nat.le_of_ble_eq_true rfl) ⟨by decide, by decide⟩ ?_
  refine wa_eqi (y := (1)) (by rw [wIn_nI (by omega), decide_eq_true (by omega)]; rfl) ?_
  refine wa_if_eq 14 dX10_way_4 (by decide) (fun c_4 => absurd c_4 (by decide)) (fun c_4 => ?_)
  refine wa_iload_n dX10_way_7 rfl 2 rfl ?_
  refine wa_cSi (x_isRow r) vX10_isRow iX10_way_8 rfl rfl (Nat.le_of_ble_eq_true rfl) ⟨by decide, by decide⟩ ?_
  refine wa_eqi (y := (0)) (by rw [hr]; rfl) ?_
  refine wa_if_ne 16 dX10_way_11 (by decide) (fun c_11 => absurd c_11 (by decide)) (fun c_11 => ?_)
  refine wa_iconst (-1) dX10_way_14 (by decide) ?_
  exact wa_iret dX10_way_15 rfl ⟨congrArg (fun z => some (Value.int z)) (rfl), rfl⟩

theorem x_way_no {G : wm_G} {M : wm_M} (C : wm_M) (w h s : Nat) (hX : xStn C M w h) (hW : TW C w h) (hXL : xLaw C M) (hCL : cLaw C) (hCS : cStn C (w * h)) (hQ : ∀ k, k < w * h → M.1 107 k = nI (sQ s k)) (hs : hadS C (w * h) s) (set : Nat) (hset : set < 16) (hn : NrNo C w h set) (r : Nat) (hr : r < 6) : MA G t_X10_way [wm_r G (96), .int (nI (set)), .int (nI (r))] (M) (fun v N => v = some (.int (-9)) ∧ FrN M N) := by
  obtain ⟨x10, x11, x12, x103, x104, x105, x106⟩ := id hX
  have hn6 := TW_n hW
  have hw3 := hW.2.2.1
  have hh2 := hW.2.2.2
  have h4 := p4_le hn6
  refine wm_met (by decide) (Nat.le_of_ble_eq_true rfl) ?_
  show WA G t_X10_way (fun v N => v = some (.int (-9)) ∧ FrN M N) 0 [(0, wm_r G (96)), (1, .int (nI (set))), (2, .int (nI (r)))] [] (M)
  refine wa_iload_n dX10_way_0 rfl 1 rfl ?_
  refine wa_cSi (x_isSet (nI set)) vX10_isSet iX10_way_1 rfl rfl (Nat.le_of_ble_eq_true rfl) ⟨by decide, by decide⟩ ?_
  refine wa_eqi (y := (1)) (by rw [wIn_nI (by omega), decide_eq_true (by omega)]; rfl) ?_
  refine wa_if_eq 14 dX10_way_4 (by decide) (fun c_4 => absurd c_4 (by decide)) (fun c_4 => ?_)
  refine wa_iload_n dX10_way_7 rfl 2 rfl ?_
  refine wa_cSi (x_isRow (nI r)) vX10_isRow iX10_way_8 rfl rfl (Nat.le_of_ble_eq_true rfl) ⟨by decide, by decide⟩ ?_
  refine wa_eqi (y := (1)) (by rw [wIn_nI (by omega), decide_eq_true (by omega)]; rfl) ?_
  refine wa_if_ne 16 dX10_way_11 (by decide) (fun c_11 => ?_) (fun c_11 => absurd c_11 (by decide))
  refine wa_aload_n dX10_way_16 rfl 0 rfl ?_
  refine wa_iload_n dX10_way_17 rfl 1 rfl ?_
  refine wa_callV (x_near_no C w h s hX hW hXL hCL hCS hQ hs set hset hn) vX10_nearest iX10_way_18 (rfl) rfl rfl rfl (Nat.le_of_ble_eq_true rfl) ⟨by decide, by decide⟩ (fun v_ N h_ => ?_)
  obtain ⟨rfl, hF⟩ := h_
  show WA G t_X10_way (fun v N => v = some (.int (-9)) ∧ FrN M N) 21 [(0, wm_r G (96)), (1, .int (nI (set))), (2, .int (nI (r)))] [.int (-9)] (N)
  refine wa_istore_n [(3, .int (-9)), (0, wm_r G (96)), (1, .int (nI (set))), (2, .int (nI (r)))] dX10_way_21 rfl (by decide) rfl ?_
  refine wa_iload_n dX10_way_22 rfl 0 rfl ?_
  refine wa_bipush (-9) dX10_way_23 (by decide) ?_
  refine wa_icmp_ne 31 dX10_way_25 (by decide) (fun c_25 => absurd c_25 (by decide)) (fun c_25 => ?_)
  refine wa_bipush (-9) dX10_way_28 (by decide) ?_
  refine wa_iret dX10_way_30 rfl ?_
  exact ⟨rfl, hF⟩

theorem x_way_ok {G : wm_G} {M : wm_M} (C : wm_M) (w h s : Nat) (hX : xStn C M w h) (hW : TW C w h) (hXL : xLaw C M) (hCL : cLaw C) (hCS : cStn C (w * h)) (hQ : ∀ k, k < w * h → M.1 107 k = nI (sQ s k)) (hs : hadS C (w * h) s) (set : Nat) (hset : set < 16) (t n : Nat) (hn : NrIs C w h s set t) (hd : dst (C.1 18) (w * h) s t = n) (r : Nat) (hr : r < 6) : MA G t_X10_way [wm_r G (96), .int (nI (set)), .int (nI (r))] (M) (fun v N => v = some (.int (nI n)) ∧ ∃ O, FrX M O ∧ N = wIa (wI O 98 r (nI n)) 99 (sgF (O.1 99) (fun i => if i < n then (lnF (C.1 18) (w * h) s t) i else 0) (60 * r) 60)) := by
  obtain ⟨x10, x11, x12, x103, x104, x105, x106⟩ := id hX
  have hn6 := TW_n hW
  have hw3 := hW.2.2.1
  have hh2 := hW.2.2.2
  have h4 := p4_le hn6
  have ht4 : t < 4096 := Nat.lt_of_lt_of_le hn.1.1 h4
  have hn18 : n ≤ 18 := by rw [← hd]; exact dst18 hn6
  refine wm_met (by decide) (Nat.le_of_ble_eq_true rfl) ?_
  show WA G t_X10_way (fun v N => v = some (.int (nI n)) ∧ ∃ O, FrX M O ∧ N = wIa (wI O 98 r (nI n)) 99 (sgF (O.1 99) (fun i => if i < n then (lnF (C.1 18) (w * h) s t) i else 0) (60 * r) 60)) 0 [(0, wm_r G (96)), (1, .int (nI (set))), (2, .int (nI (r)))] [] (M)
  refine wa_iload_n dX10_way_0 rfl 1 rfl ?_
  refine wa_cSi (x_isSet (nI set)) vX10_isSet iX10_way_1 rfl rfl (Nat.le_of_ble_eq_true rfl) ⟨by decide, by decide⟩ ?_
  refine wa_eqi (y := (1)) (by rw [wIn_nI (by omega), decide_eq_true (by omega)]; rfl) ?_
  refine wa_if_eq 14 dX10_way_4 (by decide) (fun c_4 => absurd c_4 (by decide)) (fun c_4 => ?_)
  refine wa_iload_n dX10_way_7 rfl 2 rfl ?_
  refine wa_cSi (x_isRow (nI r)) vX10_isRow iX10_way_8 rfl rfl (Nat.le_of_ble_eq_true rfl) ⟨by decide, by decide⟩ ?_
  refine wa_eqi (y := (1)) (by rw [wIn_nI (by omega), decide_eq_true (by omega)]; rfl) ?_
  refine wa_if_ne 16 dX10_way_11 (by decide) (fun c_11 => ?_) (fun c_11 => absurd c_11 (by decide))
  refine wa_aload_n dX10_way_16 rfl 0 rfl ?_
  refine wa_iload_n dX10_way_17 rfl 1 rfl ?_
  refine wa_callV (x_near_is C w h s hX hW hXL hCL hCS hQ hs set hset t hn) vX10_nearest iX10_way_18 (rfl) rfl rfl rfl (Nat.le_of_ble_eq_true rfl) ⟨by decide, by decide⟩ (fun v_ N h_ => ?_)
  obtain ⟨rfl, hF, h114⟩ := h_
  show WA G t_X10_way (fun v N => v = some (.int (nI n)) ∧ ∃ O, FrX M O ∧ N = wIa (wI O 98 r (nI n)) 99 (sgF (O.1 99) (fun i => if i < n then (lnF (C.1 18) (w * h) s t) i else 0) (60 * r) 60)) 21 [(0, wm_r G (96)), (1, .int (nI (set))), (2, .int (nI (r)))] [.int (nI (t))] (N)
  refine wa_istore_n [(3, .int (nI (t))), (0, wm_r G (96)), (1, .int (nI (set))), (2, .int (nI (r)))] dX10_way_21 rfl (by decide) rfl ?_
  refine wa_iload_n dX10_way_22 rfl 0 rfl ?_
  refine wa_bipush (-9) dX10_way_23 (by decide) ?_
  refine wa_icmp_ne 31 dX10_way_25 (by decide) (fun c_25 => ?_) (fun c_25 => absurd c_25 (nI_ne9 (by omega)))
  refine wa_aload_n dX10_way_31 rfl 1 rfl ?_
  refine wa_iload_n dX10_way_32 rfl 0 rfl ?_
  refine wa_cVv (x_layLine (M := N) C w h (hF.stn hX) hW s (fun k hk => by rw [hF.1 107 (by decide) (by decide) (by decide)]; exact hQ k hk) hs t hn.1) vX10_layLine iX10_way_33 (rfl) rfl rfl rfl (Nat.le_of_ble_eq_true rfl) ⟨by decide, by decide⟩ ?_
  refine wa_eqm (M' := (lnM N (lnF (C.1 18) (w * h) s t) n)) (by rw [hd]) ?_
  refine wa_aload_n dX10_way_36 rfl 1 rfl ?_
  refine wa_getr gX10_way_37 (rfl) rfl ?_
  refine wa_iload_n dX10_way_40 rfl 3 rfl ?_
  refine wa_aload_n dX10_way_41 rfl 1 rfl ?_
  refine wa_geti gX10_way_42 (rfl) rfl ?_
  refine wa_eqi (y := (nI (n))) (lnM_33) ?_
  refine wa_iastN (e := r) dX10_way_45 (rfl) (by omega) (by decide) ?_
  refine wa_iconst (0) dX10_way_46 (by decide) ?_
  refine wa_istore [(4, .int (0)), (3, .int (nI (t))), (0, wm_r G (96)), (1, .int (nI (set))), (2, .int (nI (r)))] dX10_way_47 (by decide) rfl ?_
  have L_49 : ∀ (n_ : Nat) (i : Nat), (60 - i) < n_ → (i ≤ 60) → WA G t_X10_way (fun v N => v = some (.int (nI n)) ∧ ∃ O, FrX M O ∧ N = wIa (wI O 98 r (nI n)) 99 (sgF (O.1 99) (fun i => if i < n then (lnF (C.1 18) (w * h) s t) i else 0) (60 * r) 60)) 49 [(4, .int (nI (i))), (0, wm_r G (96)), (2, .int (nI (r)))] [] (wIa (wI (lnM N (lnF (C.1 18) (w * h) s t) n) 98 r (nI n)) 99 (sgF ((lnM N (lnF (C.1 18) (w * h) s t) n).1 99) (fun i => if i < n then (lnF (C.1 18) (w * h) s t) i else 0) (60 * r) (i))) := by
    intro n_
    induction n_ with
    | zero => intro i h_; exact absurd h_ (Nat.not_lt_zero _)
    | succ n_ ih_49 =>
      intro i h_ hi
      refine wa_iload dX10_way_49 0 rfl ?_
      refine wa_bipush (60) dX10_way_51 (by decide) ?_
      refine wa_icmp_geN (a := i) (b := 60) 94 dX10_way_53 (by decide) (by omega) (by omega) (fun c_53 => ?_) (fun c_53 => ?_)
      · refine wa_aload_n dX10_way_94 rfl 1 rfl ?_
        refine wa_geti gX10_way_95 (rfl) rfl ?_
        refine wa_eqi (y := (nI (n))) (by rw [wIa_n (by decide), wI_c (by decide)]; exact lnM_33) ?_
        refine wa_iret dX10_way_98 rfl ?_
        exact ⟨rfl, (lnM N (lnF (C.1 18) (w * h) s t) n), hF.x.tr lnM_x, by rw [show i = 60 by omega]⟩
      · refine wa_aload_n dX10_way_56 rfl 1 rfl ?_
        refine wa_getr gX10_way_57 (rfl) rfl ?_
        refine wa_bipush (60) dX10_way_60 (by decide) ?_
        refine wa_iload_n dX10_way_62 rfl 2 rfl ?_
        refine wa_imulN (a := 60) (b := r) dX10_way_63 ?_
        refine wa_iload dX10_way_64 0 rfl ?_
        refine wa_iaddN (a := 60 * r) (b := i) dX10_way_66 ?_
        refine wa_iload dX10_way_67 0 rfl ?_
        refine wa_aload_n dX10_way_69 rfl 1 rfl ?_
        refine wa_geti gX10_way_70 (rfl) rfl ?_
        refine wa_eqi (y := (nI (n))) (by rw [wIa_n (by decide), wI_c (by decide)]; exact lnM_33) ?_
        refine wa_icmp_geN (a := i) (b := n) 86 dX10_way_73 (by decide) (by omega) (by omega) (fun c_73 => ?_) (fun c_73 => ?_)
        · refine wa_iconst (0) dX10_way_86 (by decide) ?_
          refine wa_iastN (e := 60 * r + i) dX10_way_87 (rfl) (by omega) (by decide) ?_
          refine wa_eqm (M' := wIa (wI (lnM N (lnF (C.1 18) (w * h) s t) n) 98 r (nI n)) 99 (sgF ((lnM N (lnF (C.1 18) (w * h) s t) n).1 99) (fun i => if i < n then (lnF (C.1 18) (w * h) s t) i else 0) (60 * r) (i + 1))) (wI_wIa.trans (congrArg (wIa _ 99) (sgF_s (f := (lnM N (lnF (C.1 18) (w * h) s t) n).1 99) (g := (fun i => if i < n then (lnF (C.1 18) (w * h) s t) i else 0)) (a := 60 * r) (n := i) (by first | (show _ = (if i < n then _ else _); rw [if_pos (show i < n by omega)]; done) | (show _ = (if i < n then _ else _); rw [if_neg (show ¬ i < n by omega)]; done))))) ?_
          refine wa_iinc ((nI (i + 1))) [(4, .int (nI (i + 1))), (0, wm_r G (96)), (2, .int (nI (r)))] dX10_way_88 0 rfl (nI_inc _) (by decide) rfl ?_
          refine wa_goto 49 dX10_way_91 (by decide) ?_
          exact ih_49 (i + 1) (by omega) (by omega)
        · refine wa_aload_n dX10_way_76 rfl 1 rfl ?_
          refine wa_getr gX10_way_77 (rfl) rfl ?_
          refine wa_iload dX10_way_80 0 rfl ?_
          refine wa_ialdN (e := i) dX10_way_82 (rfl) (by omega) (by decide) ?_
          refine wa_eqi (y := ((lnF (C.1 18) (w * h) s t) i)) (by rw [wIa_n (by decide), wI_c (by decide)]; exact lnM_ln (by omega)) ?_
          refine wa_goto 87 dX10_way_83 (by decide) ?_
          refine wa_iastN (e := 60 * r + i) dX10_way_87 (rfl) (by omega) (by decide) ?_
          refine wa_eqm (M' := wIa (wI (lnM N (lnF (C.1 18) (w * h) s t) n) 98 r (nI n)) 99 (sgF ((lnM N (lnF (C.1 18) (w * h) s t) n).1 99) (fun i => if i < n then (lnF (C.1 18) (w * h) s t) i else 0) (60 * r) (i + 1))) (wI_wIa.trans (congrArg (wIa _ 99) (sgF_s (f := (lnM N (lnF (C.1 18) (w * h) s t) n).1 99) (g := (fun i => if i < n then (lnF (C.1 18) (w * h) s t) i else 0)) (a := 60 * r) (n := i) (by first | (show _ = (if i < n then _ else _); rw [if_pos (show i < n by omega)]; done) | (show _ = (if i < n then _ else _); rw [if_neg (show ¬ i < n by omega)]; done))))) ?_
          refine wa_iinc ((nI (i + 1))) [(4, .int (nI (i + 1))), (0, wm_r G (96)), (2, .int (nI (r)))] dX10_way_88 0 rfl (nI_inc _) (by decide) rfl ?_
          refine wa_goto 49 dX10_way_91 (by decide) ?_
          exact ih_49 (i + 1) (by omega) (by omega)
  refine wa_sub [0, 2, 4] rfl ?_
  refine wa_eqm (M' := wIa (wI (lnM N (lnF (C.1 18) (w * h) s t) n) 98 r (nI n)) 99 (sgF ((lnM N (lnF (C.1 18) (w * h) s t) n).1 99) (fun i => if i < n then (lnF (C.1 18) (w * h) s t) i else 0) (60 * r) (0))) (sg_start (wI_c (by decide))) ?_
  exact L_49 _ 0 (Nat.lt_succ_self _) (Nat.zero_le _)

theorem x_lost_bad {G : wm_G} {M : wm_M} (set : Int32) (hset : wIn set 16 = false) : MD G t_X10_lost [wm_r G (96), .int (set)] (M) (some (.int (-1))) (M) := by
  refine wm_met (by decide) (Nat.le_of_ble_eq_true rfl) ?_
  show WA G t_X10_lost (fun v_ N_ => v_ = some (.int (-1)) ∧ N_ = M) 0 [(0, wm_r G (96)), (1, .int (set))] [] (M)
  refine wa_iload_n dX10_lost_0 rfl 1 rfl ?_
  refine wa_cSi (x_isSet set) vX10_isSet iX10_lost_1 rfl rfl (Nat.le_of_ble_eq_true rfl) ⟨by decide, by decide⟩ ?_
  refine wa_eqi (y := (0)) (by rw [hset]; rfl) ?_
  refine wa_if_ne 9 dX10_lost_4 (by decide) (fun c_4 => absurd c_4 (by decide)) (fun c_4 => ?_)
  refine wa_iconst (-1) dX10_lost_7 (by decide) ?_
  exact wa_iret dX10_lost_8 rfl ⟨congrArg (fun z => some (Value.int z)) (rfl), rfl⟩

theorem x_lost_no {G : wm_G} {M : wm_M} (C : wm_M) (w h s : Nat) (hX : xStn C M w h) (hW : TW C w h) (hXL : xLaw C M) (hCL : cLaw C) (hCS : cStn C (w * h)) (hQ : ∀ k, k < w * h → M.1 107 k = nI (sQ s k)) (hs : hadS C (w * h) s) (set : Nat) (hset : set < 16) (hn : NrNo C w h set) : MA G t_X10_lost [wm_r G (96), .int (nI (set))] (M) (fun v N => v = some (.int (-9)) ∧ FrN M N) := by
  obtain ⟨x10, x11, x12, x103, x104, x105, x106⟩ := id hX
  have hn6 := TW_n hW
  have hw3 := hW.2.2.1
  have hh2 := hW.2.2.2
  have h4 := p4_le hn6
  refine wm_met (by decide) (Nat.le_of_ble_eq_true rfl) ?_
  show WA G t_X10_lost (fun v N => v = some (.int (-9)) ∧ FrN M N) 0 [(0, wm_r G (96)), (1, .int (nI (set)))] [] (M)
  refine wa_iload_n dX10_lost_0 rfl 1 rfl ?_
  refine wa_cSi (x_isSet (nI set)) vX10_isSet iX10_lost_1 rfl rfl (Nat.le_of_ble_eq_true rfl) ⟨by decide, by decide⟩ ?_
  refine wa_eqi (y := (1)) (by rw [wIn_nI (by omega), decide_eq_true (by omega)]; rfl) ?_
  refine wa_if_ne 9 dX10_lost_4 (by decide) (fun c_4 => ?_) (fun c_4 => absurd c_4 (by decide))
  refine wa_aload_n dX10_lost_9 rfl 0 rfl ?_
  refine wa_iload_n dX10_lost_10 rfl 1 rfl ?_
  refine wa_callV (x_near_no C w h s hX hW hXL hCL hCS hQ hs set hset hn) vX10_nearest iX10_lost_11 (rfl) rfl rfl rfl (Nat.le_of_ble_eq_true rfl) ⟨by decide, by decide⟩ (fun v_ N h_ => ?_)
  obtain ⟨rfl, hF⟩ := h_
  show WA G t_X10_lost (fun v N => v = some (.int (-9)) ∧ FrN M N) 14 [(0, wm_r G (96)), (1, .int (nI (set)))] [.int (-9)] (N)
  refine wa_istore_n [(2, .int (-9)), (0, wm_r G (96)), (1, .int (nI (set)))] dX10_lost_14 rfl (by decide) rfl ?_
  refine wa_iload_n dX10_lost_15 rfl 0 rfl ?_
  refine wa_bipush (-9) dX10_lost_16 (by decide) ?_
  refine wa_icmp_ne 24 dX10_lost_18 (by decide) (fun c_18 => absurd c_18 (by decide)) (fun c_18 => ?_)
  refine wa_bipush (-9) dX10_lost_21 (by decide) ?_
  refine wa_iret dX10_lost_23 rfl ?_
  exact ⟨rfl, hF⟩

theorem x_lost_ok {G : wm_G} {M : wm_M} (C : wm_M) (w h s : Nat) (hX : xStn C M w h) (hW : TW C w h) (hXL : xLaw C M) (hCL : cLaw C) (hCS : cStn C (w * h)) (hQ : ∀ k, k < w * h → M.1 107 k = nI (sQ s k)) (hs : hadS C (w * h) s) (set : Nat) (hset : set < 16) (t n : Nat) (hn : NrIs C w h s set t) (hd : dst (C.1 18) (w * h) s t = n) : MA G t_X10_lost [wm_r G (96), .int (nI (set))] (M) (fun v N => v = some (.int (nI (wBits (fun l => decide (2 ≤ lvQ C w h s l) && !decide (2 ≤ lvQ C w h (rwS C (lnF (C.1 18) (w * h) s t) s n) l)) 4))) ∧ ∃ O, FrX M O ∧ N = xTell O (nI (wBits (alX C w h (lnF (C.1 18) (w * h) s t) s (n)) 4))) := by
  obtain ⟨x10, x11, x12, x103, x104, x105, x106⟩ := id hX
  have hn6 := TW_n hW
  have hw3 := hW.2.2.1
  have hh2 := hW.2.2.2
  have h4 := p4_le hn6
  have ht4 : t < 4096 := Nat.lt_of_lt_of_le hn.1.1 h4
  have hn18 : n ≤ 18 := by rw [← hd]; exact dst18 hn6
  refine wm_met (by decide) (Nat.le_of_ble_eq_true rfl) ?_
  show WA G t_X10_lost (fun v N => v = some (.int (nI (wBits (fun l => decide (2 ≤ lvQ C w h s l) && !decide (2 ≤ lvQ C w h (rwS C (lnF (C.1 18) (w * h) s t) s n) l)) 4))) ∧ ∃ O, FrX M O ∧ N = xTell O (nI (wBits (alX C w h (lnF (C.1 18) (w * h) s t) s (n)) 4))) 0 [(0, wm_r G (96)), (1, .int (nI (set)))] [] (M)
  refine wa_iload_n dX10_lost_0 rfl 1 rfl ?_
  refine wa_cSi (x_isSet (nI set)) vX10_isSet iX10_lost_1 rfl rfl (Nat.le_of_ble_eq_true rfl) ⟨by decide, by decide⟩ ?_
  refine wa_eqi (y := (1)) (by rw [wIn_nI (by omega), decide_eq_true (by omega)]; rfl) ?_
  refine wa_if_ne 9 dX10_lost_4 (by decide) (fun c_4 => ?_) (fun c_4 => absurd c_4 (by decide))
  refine wa_aload_n dX10_lost_9 rfl 0 rfl ?_
  refine wa_iload_n dX10_lost_10 rfl 1 rfl ?_
  refine wa_callV (x_near_is C w h s hX hW hXL hCL hCS hQ hs set hset t hn) vX10_nearest iX10_lost_11 (rfl) rfl rfl rfl (Nat.le_of_ble_eq_true rfl) ⟨by decide, by decide⟩ (fun v_ N h_ => ?_)
  obtain ⟨rfl, hF, h114⟩ := h_
  show WA G t_X10_lost (fun v N => v = some (.int (nI (wBits (fun l => decide (2 ≤ lvQ C w h s l) && !decide (2 ≤ lvQ C w h (rwS C (lnF (C.1 18) (w * h) s t) s n) l)) 4))) ∧ ∃ O, FrX M O ∧ N = xTell O (nI (wBits (alX C w h (lnF (C.1 18) (w * h) s t) s (n)) 4))) 14 [(0, wm_r G (96)), (1, .int (nI (set)))] [.int (nI (t))] (N)
  refine wa_istore_n [(2, .int (nI (t))), (0, wm_r G (96)), (1, .int (nI (set)))] dX10_lost_14 rfl (by decide) rfl ?_
  refine wa_iload_n dX10_lost_15 rfl 0 rfl ?_
  refine wa_bipush (-9) dX10_lost_16 (by decide) ?_
  refine wa_icmp_ne 24 dX10_lost_18 (by decide) (fun c_18 => ?_) (fun c_18 => absurd c_18 (nI_ne9 (by omega)))
  refine wa_aload_n dX10_lost_24 rfl 1 rfl ?_
  refine wa_iload_n dX10_lost_25 rfl 0 rfl ?_
  refine wa_cVv (x_layLine (M := N) C w h (hF.stn hX) hW s (fun k hk => by rw [hF.1 107 (by decide) (by decide) (by decide)]; exact hQ k hk) hs t hn.1) vX10_layLine iX10_lost_26 (rfl) rfl rfl rfl (Nat.le_of_ble_eq_true rfl) ⟨by decide, by decide⟩ ?_
  refine wa_eqm (M' := (lnM N (lnF (C.1 18) (w * h) s t) n)) (by rw [hd]) ?_
  refine wa_aload_n dX10_lost_29 rfl 1 rfl ?_
  refine wa_cVv (x_layNow (M := (lnM N (lnF (C.1 18) (w * h) s t) n)) (w * h) hn6 (by rw [lnM_p (by decide), hF.1 96 (by decide) (by decide) (by decide)]; exact x12)) vX10_layNow iX10_lost_30 (rfl) rfl rfl rfl (Nat.le_of_ble_eq_true rfl) ⟨by decide, by decide⟩ ?_
  refine wa_top (fun N3 e_N3 => ?_)
  have h107 : (lnM N (lnF (C.1 18) (w * h) s t) n).1 107 = M.1 107 := (lnM_c (by decide) (by decide)).trans (hF.1 107 (by decide) (by decide) (by decide))
  have hQo : XQ C N3 w h s := by rw [e_N3]; exact XQ.lay (s := s) hW (lnM_stn (hF.stn hX)) (lnM_law (hF.law hXL)) hCL hCS (fun k hk => by rw [h107]; exact hQ k hk)
  have hX3 : FrX M N3 := by rw [e_N3]; exact (hF.x.tr lnM_x).tr (FrX.I rfl (by decide))
  have h33 : N3.1 96 33 = nI n := by rw [e_N3]; show (wIa _ 111 _).1 96 33 = _; rw [wIa_n (by decide)]; exact lnM_33
  have hln : ∀ j, j < n → N3.1 116 j = (lnF (C.1 18) (w * h) s t) j := fun j hj => by rw [e_N3]; show (wIa _ 111 _).1 116 j = _; rw [wIa_n (by decide)]; exact lnM_ln hj
  refine wa_aload_n dX10_lost_33 rfl 1 rfl ?_
  refine wa_cVi (x_standing C w h (s) hQo) vX10_standing iX10_lost_34 (rfl) rfl rfl rfl (Nat.le_of_ble_eq_true rfl) ⟨by decide, by decide⟩ ?_
  refine wa_istore_n [(3, .int (nI (stdN C w h (s)))), (2, .int (nI (t))), (0, wm_r G (96)), (1, .int (nI (set)))] dX10_lost_37 rfl (by decide) rfl ?_
  refine wa_iload_n dX10_lost_38 rfl 0 rfl ?_
  refine wa_eqi (y := (nI (wBits (alX C w h (lnF (C.1 18) (w * h) s t) s (0)) 4))) (congrArg nI (wBits_cong (fun l _ => by unfold alX; rw [wAll_s]; rfl))) ?_
  refine wa_istore [(4, .int (nI (wBits (alX C w h (lnF (C.1 18) (w * h) s t) s (0)) 4))), (3, .int (nI (stdN C w h (s)))), (2, .int (nI (t))), (0, wm_r G (96)), (1, .int (nI (set)))] dX10_lost_39 (by decide) rfl ?_
  refine wa_iload_n dX10_lost_41 rfl 1 rfl ?_
  refine wa_eqi (y := (nI (stdN C w h (rwS C (lnF (C.1 18) (w * h) s t) s 0)))) (rfl) ?_
  refine wa_istore [(5, .int (nI (stdN C w h (rwS C (lnF (C.1 18) (w * h) s t) s 0)))), (4, .int (nI (wBits (alX C w h (lnF (C.1 18) (w * h) s t) s (0)) 4))), (3, .int (nI (stdN C w h (s)))), (2, .int (nI (t))), (0, wm_r G (96)), (1, .int (nI (set)))] dX10_lost_42 (by decide) rfl ?_
  refine wa_iconst (0) dX10_lost_44 (by decide) ?_
  refine wa_istore [(6, .int (0)), (5, .int (nI (stdN C w h (rwS C (lnF (C.1 18) (w * h) s t) s 0)))), (4, .int (nI (wBits (alX C w h (lnF (C.1 18) (w * h) s t) s (0)) 4))), (3, .int (nI (stdN C w h (s)))), (2, .int (nI (t))), (0, wm_r G (96)), (1, .int (nI (set)))] dX10_lost_45 (by decide) rfl ?_
  have L_47 : ∀ (n_ : Nat) (i : Nat) (O : wm_M), (n - i) < n_ → (i ≤ n) → ((∀ c, c ≠ 111 → O.1 c = N3.1 c) ∧ O.2 = N3.2) → (XQ C O w h (rwS C (lnF (C.1 18) (w * h) s t) s i)) → WA G t_X10_lost (fun v N => v = some (.int (nI (wBits (fun l => decide (2 ≤ lvQ C w h s l) && !decide (2 ≤ lvQ C w h (rwS C (lnF (C.1 18) (w * h) s t) s n) l)) 4))) ∧ ∃ O, FrX M O ∧ N = xTell O (nI (wBits (alX C w h (lnF (C.1 18) (w * h) s t) s (n)) 4))) 47 [(6, .int (nI (i))), (5, .int (nI (stdN C w h (rwS C (lnF (C.1 18) (w * h) s t) s i)))), (4, .int (nI (wBits (alX C w h (lnF (C.1 18) (w * h) s t) s (i)) 4))), (3, .int (nI (stdN C w h s))), (0, wm_r G (96))] [] (O) := by
    intro n_
    induction n_ with
    | zero => intro i O h_; exact absurd h_ (Nat.not_lt_zero _)
    | succ n_ ih_47 =>
      intro i O h_ hi hO hQo
      refine wa_iload dX10_lost_47 0 rfl ?_
      refine wa_aload_n dX10_lost_49 rfl 4 rfl ?_
      refine wa_geti gX10_lost_50 (rfl) rfl ?_
      refine wa_eqi (y := (nI (n))) (by rw [hO.1 96 (by decide)]; exact h33) ?_
      refine wa_icmp_geN (a := i) (b := n) 113 dX10_lost_53 (by decide) (by omega) (by omega) (fun c_53 => ?_) (fun c_53 => ?_)
      · refine wa_aload_n dX10_lost_113 rfl 4 rfl ?_
        refine wa_iload dX10_lost_114 2 rfl ?_
        refine wa_eqi (y := (nI (wBits (alX C w h (lnF (C.1 18) (w * h) s t) s (n)) 4))) (by rw [show i = n by omega]) ?_
        refine wa_iload_n dX10_lost_116 rfl 3 rfl ?_
        refine wa_iload dX10_lost_117 1 rfl ?_
        refine wa_iconst (-1) dX10_lost_119 (by decide) ?_
        refine wa_ixor dX10_lost_120 ?_
        refine wa_iand dX10_lost_121 ?_
        refine wa_eqi (y := (nI (wBits (fun l => decide (2 ≤ lvQ C w h s l) && !decide (2 ≤ lvQ C w h (rwS C (lnF (C.1 18) (w * h) s t) s n) l)) 4))) (by rw [show i = n by omega, lo_bits _ (stdN_lt _ _ _ _) _ (stdN_lt _ _ _ _)]; unfold stdN; rw [wBits_sub]) ?_
        refine wa_cVi (x_tells (nI (wBits (alX C w h (lnF (C.1 18) (w * h) s t) s (n)) 4)) (nI (wBits (fun l => decide (2 ≤ lvQ C w h s l) && !decide (2 ≤ lvQ C w h (rwS C (lnF (C.1 18) (w * h) s t) s n) l)) 4))) vX10_tells iX10_lost_122 (rfl) rfl rfl rfl (Nat.le_of_ble_eq_true rfl) ⟨by decide, by decide⟩ ?_
        refine wa_iret dX10_lost_125 rfl ?_
        exact ⟨rfl, O, hX3.tr ⟨fun c hc => hO.1 c (fun e => by rw [e] at hc; cases hc), fun j _ => by rw [hO.1 96 (by decide)], fun c _ => by rw [hO.2], fun j _ => by rw [hO.2], fun d _ => by rw [hO.2], fun q => by unfold xDyn; rw [hO.2]; exact q⟩, rfl⟩
      · refine wa_aload_n dX10_lost_56 rfl 4 rfl ?_
        refine wa_getr gX10_lost_57 (rfl) rfl ?_
        refine wa_aload_n dX10_lost_60 rfl 4 rfl ?_
        refine wa_getr gX10_lost_61 (rfl) rfl ?_
        refine wa_iload dX10_lost_64 0 rfl ?_
        refine wa_ialdN (e := i) dX10_lost_66 (rfl) (by omega) (by decide) ?_
        refine wa_eqi (y := (nI (lnK (tbt (C.1 18) s t) (w * h) i))) (by rw [hO.1 116 (by decide)]; exact hln i (by omega)) ?_
        have hk : lnK (tbt (C.1 18) s t) (w * h) i < w * h := lnK_lt (by show i < dst _ _ _ _; omega)
        refine wa_aload_n dX10_lost_67 rfl 4 rfl ?_
        refine wa_getr gX10_lost_68 (rfl) rfl ?_
        refine wa_aload_n dX10_lost_71 rfl 4 rfl ?_
        refine wa_getr gX10_lost_72 (rfl) rfl ?_
        refine wa_iload dX10_lost_75 0 rfl ?_
        refine wa_ialdN (e := i) dX10_lost_77 (rfl) (by omega) (by decide) ?_
        refine wa_eqi (y := (nI (lnK (tbt (C.1 18) s t) (w * h) i))) (by rw [hO.1 116 (by decide)]; exact hln i (by omega)) ?_
        refine wa_ialdN (e := lnK (tbt (C.1 18) s t) (w * h) i) dX10_lost_78 (rfl) (by omega) (by decide) ?_
        refine wa_eqi (y := (nI (sQ (rwS C (lnF (C.1 18) (w * h) s t) s i) (lnK (tbt (C.1 18) s t) (w * h) i)))) (hQo.2.2.2.2.2 _ hk) ?_
        refine wa_aload_n dX10_lost_79 rfl 4 rfl ?_
        refine wa_aload_n dX10_lost_80 rfl 4 rfl ?_
        refine wa_getr gX10_lost_81 (rfl) rfl ?_
        refine wa_iload dX10_lost_84 0 rfl ?_
        refine wa_ialdN (e := i) dX10_lost_86 (rfl) (by omega) (by decide) ?_
        refine wa_eqi (y := (nI (lnK (tbt (C.1 18) s t) (w * h) i))) (by rw [hO.1 116 (by decide)]; exact hln i (by omega)) ?_
        refine wa_cVi (x_stepOf C w h hQo.2.1 hW (lnK (tbt (C.1 18) s t) (w * h) i) hk) vX10_stepOf iX10_lost_87 (rfl) rfl rfl rfl (Nat.le_of_ble_eq_true rfl) ⟨by decide, by decide⟩ ?_
        refine wa_eqi (y := (nI (sStep (C.1 18 (lnK (tbt (C.1 18) s t) (w * h) i))))) (congrArg nI (st_of (ln_nf hn6 hs hn.1 (by omega)))) ?_
        refine wa_iaddN (a := sQ (rwS C (lnF (C.1 18) (w * h) s t) s i) (lnK (tbt (C.1 18) s t) (w * h) i)) (b := sStep (C.1 18 (lnK (tbt (C.1 18) s t) (w * h) i))) dX10_lost_90 ?_
        refine wa_iconst (4) dX10_lost_91 (by decide) ?_
        refine wa_iremN (a := sQ (rwS C (lnF (C.1 18) (w * h) s t) s i) (lnK (tbt (C.1 18) s t) (w * h) i) + (sStep (C.1 18 (lnK (tbt (C.1 18) s t) (w * h) i)))) (b := 4) dX10_lost_92 (by have := sQ_lt (rwS C (lnF (C.1 18) (w * h) s t) s i) (lnK (tbt (C.1 18) s t) (w * h) i); have := sStep_le (C.1 18 (lnK (tbt (C.1 18) s t) (w * h) i)); omega) (by omega) (by omega) ?_
        refine wa_iastN (e := lnK (tbt (C.1 18) s t) (w * h) i) dX10_lost_93 (rfl) (by omega) (by decide) ?_
        refine wa_top (fun N4 e_N4 => ?_)
        have hO4 : (∀ c, c ≠ 111 → N4.1 c = N3.1 c) ∧ N4.2 = N3.2 := ⟨fun c hc => by rw [e_N4, wI_c hc]; exact hO.1 c hc, by rw [e_N4]; exact hO.2⟩
        have hst4 : rwS C (lnF (C.1 18) (w * h) s t) s (i + 1) = sMv (rwS C (lnF (C.1 18) (w * h) s t) s i) (lnK (tbt (C.1 18) s t) (w * h) i) (sStep (C.1 18 (lnK (tbt (C.1 18) s t) (w * h) i))) := by
          rw [rwS_s]; unfold mvS lnF; rw [if_neg (nI_ne9 (by omega)), nI_clamp (by omega)]
        have hQo4 : XQ C N4 w h (rwS C (lnF (C.1 18) (w * h) s t) s (i + 1)) := by
          obtain ⟨a1, a2, a3, a4, a5, a6⟩ := hQo
          refine ⟨a1, a2.fr ?_ ?_ ?_ ?_ ?_ ?_ ?_ rfl rfl rfl rfl, a3.fr ?_ ?_ rfl (fun _ _ => rfl), a4, a5, fun j hj => ?_⟩
          all_goals first | (rw [e_N4, wI_c (by decide)]; done) | skip
          rw [e_N4, hst4]
          by_cases q : j = lnK (tbt (C.1 18) s t) (w * h) i
          · subst q; rw [wI_at, sQ_mv (by omega)]
          · rw [wI_ne (fun e => q e.2), sQ_mvn (by omega) (by omega) q]; exact a6 j hj
        refine wa_aload_n dX10_lost_94 rfl 4 rfl ?_
        refine wa_cVi (x_standing C w h (rwS C (lnF (C.1 18) (w * h) s t) s (i + 1)) hQo4) vX10_standing iX10_lost_95 (rfl) rfl rfl rfl (Nat.le_of_ble_eq_true rfl) ⟨by decide, by decide⟩ ?_
        refine wa_istore [(5, .int (nI (stdN C w h (rwS C (lnF (C.1 18) (w * h) s t) s (i + 1))))), (6, .int (nI (i))), (4, .int (nI (wBits (alX C w h (lnF (C.1 18) (w * h) s t) s (i)) 4))), (3, .int (nI (stdN C w h s))), (0, wm_r G (96))] dX10_lost_98 (by decide) rfl ?_
        refine wa_iload dX10_lost_100 2 rfl ?_
        refine wa_iload dX10_lost_102 0 rfl ?_
        refine wa_iand dX10_lost_104 ?_
        refine wa_eqi (y := (nI (wBits (alX C w h (lnF (C.1 18) (w * h) s t) s (i + 1)) 4))) (by rw [nI_and]; unfold stdN; rw [wBits_and]; exact congrArg nI (wBits_cong (fun l _ => (alX_s _ _ _ _ _ _ _).symm))) ?_
        refine wa_istore [(4, .int (nI (wBits (alX C w h (lnF (C.1 18) (w * h) s t) s (i + 1)) 4))), (5, .int (nI (stdN C w h (rwS C (lnF (C.1 18) (w * h) s t) s (i + 1))))), (6, .int (nI (i))), (3, .int (nI (stdN C w h s))), (0, wm_r G (96))] dX10_lost_105 (by decide) rfl ?_
        refine wa_iinc ((nI (i + 1))) [(6, .int (nI (i + 1))), (4, .int (nI (wBits (alX C w h (lnF (C.1 18) (w * h) s t) s (i + 1)) 4))), (5, .int (nI (stdN C w h (rwS C (lnF (C.1 18) (w * h) s t) s (i + 1))))), (3, .int (nI (stdN C w h s))), (0, wm_r G (96))] dX10_lost_107 2 rfl (nI_inc _) (by decide) rfl ?_
        refine wa_goto 47 dX10_lost_110 (by decide) ?_
        refine wa_sub [0, 2, 1, 3, 4] rfl ?_
        exact ih_47 (i + 1) _ (by omega) (by omega) hO4 hQo4
  refine wa_sub [0, 1, 2, 3, 5] rfl ?_
  exact L_47 _ 0 N3 (Nat.lt_succ_self _) (Nat.zero_le _) ⟨fun _ _ => rfl, rfl⟩ hQo

theorem x_tog {G : wm_G} {M : wm_M} (C : wm_M) (w h s : Nat) (hX : xStn C M w h) (hW : TW C w h) (hXL : xLaw C M) (hCL : cLaw C) (hCS : cStn C (w * h)) (hQ : ∀ k, k < w * h → M.1 107 k = nI (sQ s k)) (hs : hadS C (w * h) s) : MA G t_X10_together [wm_r G (96)] (M) (fun v N => ∃ b, v = some (.int (nI (pcN b))) ∧ BtP C w h (4 ^ (w * h)) b ∧ ∃ O, FrN M O ∧ N = xTell O (nI b)) := by
  obtain ⟨x10, x11, x12, x103, x104, x105, x106⟩ := id hX
  have hn6 := TW_n hW
  have hw3 := hW.2.2.1
  have hh2 := hW.2.2.2
  have h4 := p4_le hn6
  refine wm_met (by decide) (Nat.le_of_ble_eq_true rfl) ?_
  show WA G t_X10_together (fun v N => ∃ b, v = some (.int (nI (pcN b))) ∧ BtP C w h (4 ^ (w * h)) b ∧ ∃ O, FrN M O ∧ N = xTell O (nI b)) 0 [(0, wm_r G (96))] [] (M)
  refine wa_aload_n dX10_together_0 rfl 0 rfl ?_
  refine wa_cVv (x_layTurns C w h hX hW s hQ hs) vX10_layTurns iX10_together_1 (rfl) rfl rfl rfl (Nat.le_of_ble_eq_true rfl) ⟨by decide, by decide⟩ ?_
  refine wa_top (fun N1 e_N1 => ?_)
  have hF1 : FrN M N1 := by rw [e_N1]; exact FrN.t
  have h114 : ∀ t, t < 4 ^ (w * h) → N1.1 114 t = tT (C.1 18) (w * h) s t := fun t ht => by rw [e_N1, wIa_s, wTo_in ht]
  refine wa_aload_n dX10_together_4 rfl 0 rfl ?_
  refine wa_iconst (0) dX10_together_5 (by decide) ?_
  refine wa_eqi (y := (wB (false))) (rfl) ?_
  refine wa_callV (x_layStands (M := N1) C w h (hF1.stn hX) hW (hF1.law hXL) hCL hCS false (fun t => prodB (hadN (C.1 18) (w * h)) t) (fun t ht => ⟨fun q => (by cases q), fun _ => by rw [h114 t ht]; exact tT_neg hn6⟩)) vX10_layStands iX10_together_6 (rfl) rfl rfl rfl (Nat.le_of_ble_eq_true rfl) ⟨by decide, by decide⟩ (fun v_ N2 h_ => ?_)
  obtain ⟨rfl, hF2, hst⟩ := h_
  show WA G t_X10_together (fun v N => ∃ b, v = some (.int (nI (pcN b))) ∧ BtP C w h (4 ^ (w * h)) b ∧ ∃ O, FrN M O ∧ N = xTell O (nI b)) 9 [(0, wm_r G (96))] [] (N2)
  have hF : FrN M N2 := hF1.tr hF2.n
  have h114 : ∀ t, t < 4 ^ (w * h) → N2.1 114 t = tT (C.1 18) (w * h) s t := fun t ht => by rw [hF2.1 114 (by decide) (by decide)]; exact h114 t ht
  have h12 : N2.1 96 12 = nI (w * h) := by rw [hF.1 96 (by decide) (by decide) (by decide)]; exact x12
  refine wa_iconst (0) dX10_together_9 (by decide) ?_
  refine wa_istore_n [(1, .int (0)), (0, wm_r G (96))] dX10_together_10 rfl (by decide) rfl ?_
  refine wa_iconst (0) dX10_together_11 (by decide) ?_
  refine wa_istore_n [(2, .int (0)), (1, .int (0)), (0, wm_r G (96))] dX10_together_12 rfl (by decide) rfl ?_
  have L_13 : ∀ (n_ : Nat) (t b : Nat), (4 ^ (w * h) - t) < n_ → (t ≤ 4 ^ (w * h)) → (BtP C w h t b) → WA G t_X10_together (fun v N => ∃ b, v = some (.int (nI (pcN b))) ∧ BtP C w h (4 ^ (w * h)) b ∧ ∃ O, FrN M O ∧ N = xTell O (nI b)) 13 [(2, .int (nI (t))), (1, .int (nI (b))), (0, wm_r G (96))] [] (N2) := by
    intro n_
    induction n_ with
    | zero => intro t b h_; exact absurd h_ (Nat.not_lt_zero _)
    | succ n_ ih_13 =>
      intro t b h_ ht hb
      have hb16 := hb.1
      refine wa_iload_n dX10_together_13 rfl 0 rfl ?_
      refine wa_aload_n dX10_together_14 rfl 2 rfl ?_
      refine wa_cVi (x_stateMany (w * h) hn6 h12) vX10_stateMany iX10_together_15 (rfl) rfl rfl rfl (Nat.le_of_ble_eq_true rfl) ⟨by decide, by decide⟩ ?_
      refine wa_icmp_geN (a := t) (b := 4 ^ (w * h)) 80 dX10_together_18 (by decide) (by omega) (by omega) (fun c_18 => ?_) (fun c_18 => ?_)
      · refine wa_aload_n dX10_together_80 rfl 2 rfl ?_
        refine wa_iload_n dX10_together_81 rfl 1 rfl ?_
        refine wa_iload_n dX10_together_82 rfl 1 rfl ?_
        refine wa_cSi (x_bits b (by omega)) vX10_bits iX10_together_83 rfl rfl (Nat.le_of_ble_eq_true rfl) ⟨by decide, by decide⟩ ?_
        refine wa_cVi (x_tells (nI b) (nI (pcN b))) vX10_tells iX10_together_86 (rfl) rfl rfl rfl (Nat.le_of_ble_eq_true rfl) ⟨by decide, by decide⟩ ?_
        refine wa_iret dX10_together_89 rfl ?_
        exact ⟨b, rfl, by rw [show 4 ^ (w * h) = t by omega]; exact hb, N2, hF, rfl⟩
      · refine wa_aload_n dX10_together_21 rfl 2 rfl ?_
        refine wa_getr gX10_together_22 (rfl) rfl ?_
        refine wa_iload_n dX10_together_25 rfl 0 rfl ?_
        refine wa_ialdN (e := t) dX10_together_26 (rfl) (by omega) (by decide) ?_
        refine wa_eqi (y := (tT (C.1 18) (w * h) s t)) (h114 t (by omega)) ?_
        refine wa_if_lt 39 dX10_together_27 (by decide) (fun c_27 => ?_) (fun c_27 => ?_)
        · refine wa_iconst (0) dX10_together_39 (by decide) ?_
          refine wa_eqi (y := (nI (hadX C w h t))) (by unfold hadX; first | (rw [if_neg (by rw [(tT_neg hn6).mp c_27]; decide)]; rfl) | (rw [if_pos hpt]; done)) ?_
          refine wa_istore_n [(3, .int (nI (hadX C w h t))), (2, .int (nI (t))), (1, .int (nI (b))), (0, wm_r G (96))] dX10_together_40 rfl (by decide) rfl ?_
          have L_41 : WA G t_X10_together (fun v N => ∃ b, v = some (.int (nI (pcN b))) ∧ BtP C w h (4 ^ (w * h)) b ∧ ∃ O, FrN M O ∧ N = xTell O (nI b)) 41 [(3, .int (nI (hadX C w h t))), (2, .int (nI (t))), (1, .int (nI (b))), (0, wm_r G (96))] [] (N2) := by
            have hx16 := hadX_lt C w h t
            refine wa_iload_n dX10_together_41 rfl 0 rfl ?_
            refine wa_cSi (x_bits (hadX C w h t) (by omega)) vX10_bits iX10_together_42 rfl rfl (Nat.le_of_ble_eq_true rfl) ⟨by decide, by decide⟩ ?_
            refine wa_iload_n dX10_together_45 rfl 2 rfl ?_
            refine wa_cSi (x_bits b (by omega)) vX10_bits iX10_together_46 rfl rfl (Nat.le_of_ble_eq_true rfl) ⟨by decide, by decide⟩ ?_
            refine wa_icmp_gtN (a := pcN (hadX C w h t)) (b := pcN b) 68 dX10_together_49 (by decide) (by have := pcN_le (hadX C w h t); omega) (by have := pcN_le b; omega) (fun c_49 => ?_) (fun c_49 => ?_)
            · refine wa_iload_n dX10_together_68 rfl 0 rfl ?_
              refine wa_goto 73 dX10_together_69 (by decide) ?_
              refine wa_istore_n [(1, .int (nI (hadX C w h t))), (3, .int (nI (hadX C w h t))), (2, .int (nI (t))), (0, wm_r G (96))] dX10_together_73 rfl (by decide) rfl ?_
              refine wa_iinc ((nI (t + 1))) [(2, .int (nI (t + 1))), (1, .int (nI (hadX C w h t))), (3, .int (nI (hadX C w h t))), (0, wm_r G (96))] dX10_together_74 2 rfl (nI_inc _) (by decide) rfl ?_
              refine wa_goto 13 dX10_together_77 (by decide) ?_
              refine wa_sub [0, 1, 3] rfl ?_
              exact ih_13 (t + 1) _ (by omega) (by omega) (by first | exact bt_new hb (by unfold bt1; omega) | exact bt_old hb (by unfold bt1; omega))
            · refine wa_iload_n dX10_together_52 rfl 0 rfl ?_
              refine wa_cSi (x_bits (hadX C w h t) (by omega)) vX10_bits iX10_together_53 rfl rfl (Nat.le_of_ble_eq_true rfl) ⟨by decide, by decide⟩ ?_
              refine wa_iload_n dX10_together_56 rfl 2 rfl ?_
              refine wa_cSi (x_bits b (by omega)) vX10_bits iX10_together_57 rfl rfl (Nat.le_of_ble_eq_true rfl) ⟨by decide, by decide⟩ ?_
              refine wa_icmp_neN (a := pcN (hadX C w h t)) (b := pcN b) 72 dX10_together_60 (by decide) (by have := pcN_le (hadX C w h t); omega) (by have := pcN_le b; omega) (fun c_60 => ?_) (fun c_60 => ?_)
              · refine wa_iload_n dX10_together_72 rfl 2 rfl ?_
                refine wa_istore_n [(1, .int (nI (b))), (3, .int (nI (hadX C w h t))), (2, .int (nI (t))), (0, wm_r G (96))] dX10_together_73 rfl (by decide) rfl ?_
                refine wa_iinc ((nI (t + 1))) [(2, .int (nI (t + 1))), (1, .int (nI (b))), (3, .int (nI (hadX C w h t))), (0, wm_r G (96))] dX10_together_74 2 rfl (nI_inc _) (by decide) rfl ?_
                refine wa_goto 13 dX10_together_77 (by decide) ?_
                refine wa_sub [0, 1, 3] rfl ?_
                exact ih_13 (t + 1) _ (by omega) (by omega) (by first | exact bt_new hb (by unfold bt1; omega) | exact bt_old hb (by unfold bt1; omega))
              · refine wa_iload_n dX10_together_63 rfl 0 rfl ?_
                refine wa_iload_n dX10_together_64 rfl 2 rfl ?_
                refine wa_icmp_geN (a := hadX C w h t) (b := b) 72 dX10_together_65 (by decide) (by omega) (by omega) (fun c_65 => ?_) (fun c_65 => ?_)
                · refine wa_iload_n dX10_together_72 rfl 2 rfl ?_
                  refine wa_istore_n [(1, .int (nI (b))), (3, .int (nI (hadX C w h t))), (2, .int (nI (t))), (0, wm_r G (96))] dX10_together_73 rfl (by decide) rfl ?_
                  refine wa_iinc ((nI (t + 1))) [(2, .int (nI (t + 1))), (1, .int (nI (b))), (3, .int (nI (hadX C w h t))), (0, wm_r G (96))] dX10_together_74 2 rfl (nI_inc _) (by decide) rfl ?_
                  refine wa_goto 13 dX10_together_77 (by decide) ?_
                  refine wa_sub [0, 1, 3] rfl ?_
                  exact ih_13 (t + 1) _ (by omega) (by omega) (by first | exact bt_new hb (by unfold bt1; omega) | exact bt_old hb (by unfold bt1; omega))
                · refine wa_iload_n dX10_together_68 rfl 0 rfl ?_
                  refine wa_goto 73 dX10_together_69 (by decide) ?_
                  refine wa_istore_n [(1, .int (nI (hadX C w h t))), (3, .int (nI (hadX C w h t))), (2, .int (nI (t))), (0, wm_r G (96))] dX10_together_73 rfl (by decide) rfl ?_
                  refine wa_iinc ((nI (t + 1))) [(2, .int (nI (t + 1))), (1, .int (nI (hadX C w h t))), (3, .int (nI (hadX C w h t))), (0, wm_r G (96))] dX10_together_74 2 rfl (nI_inc _) (by decide) rfl ?_
                  refine wa_goto 13 dX10_together_77 (by decide) ?_
                  refine wa_sub [0, 1, 3] rfl ?_
                  exact ih_13 (t + 1) _ (by omega) (by omega) (by first | exact bt_new hb (by unfold bt1; omega) | exact bt_old hb (by unfold bt1; omega))
          exact L_41  
        · have hpt : prodB (hadN (C.1 18) (w * h)) t = true := by
            cases q : prodB (hadN (C.1 18) (w * h)) t with
            | true => rfl
            | false => exact absurd ((tT_neg (s := s) hn6).mpr q) c_27
          refine wa_aload_n dX10_together_30 rfl 2 rfl ?_
          refine wa_getr gX10_together_31 (rfl) rfl ?_
          refine wa_iload_n dX10_together_34 rfl 0 rfl ?_
          refine wa_ialdN (e := t) dX10_together_35 (rfl) (by omega) (by decide) ?_
          refine wa_eqi (y := (nI (stdN C w h t))) (hst t (by omega) hpt) ?_
          refine wa_goto 40 dX10_together_36 (by decide) ?_
          refine wa_eqi (y := (nI (hadX C w h t))) (by unfold hadX; first | (rw [if_neg (by rw [(tT_neg hn6).mp c_27]; decide)]; rfl) | (rw [if_pos hpt]; done)) ?_
          refine wa_istore_n [(3, .int (nI (hadX C w h t))), (2, .int (nI (t))), (1, .int (nI (b))), (0, wm_r G (96))] dX10_together_40 rfl (by decide) rfl ?_
          have L_41 : WA G t_X10_together (fun v N => ∃ b, v = some (.int (nI (pcN b))) ∧ BtP C w h (4 ^ (w * h)) b ∧ ∃ O, FrN M O ∧ N = xTell O (nI b)) 41 [(3, .int (nI (hadX C w h t))), (2, .int (nI (t))), (1, .int (nI (b))), (0, wm_r G (96))] [] (N2) := by
            have hx16 := hadX_lt C w h t
            refine wa_iload_n dX10_together_41 rfl 0 rfl ?_
            refine wa_cSi (x_bits (hadX C w h t) (by omega)) vX10_bits iX10_together_42 rfl rfl (Nat.le_of_ble_eq_true rfl) ⟨by decide, by decide⟩ ?_
            refine wa_iload_n dX10_together_45 rfl 2 rfl ?_
            refine wa_cSi (x_bits b (by omega)) vX10_bits iX10_together_46 rfl rfl (Nat.le_of_ble_eq_true rfl) ⟨by decide, by decide⟩ ?_
            refine wa_icmp_gtN (a := pcN (hadX C w h t)) (b := pcN b) 68 dX10_together_49 (by decide) (by have := pcN_le (hadX C w h t); omega) (by have := pcN_le b; omega) (fun c_49 => ?_) (fun c_49 => ?_)
            · refine wa_iload_n dX10_together_68 rfl 0 rfl ?_
              refine wa_goto 73 dX10_together_69 (by decide) ?_
              refine wa_istore_n [(1, .int (nI (hadX C w h t))), (3, .int (nI (hadX C w h t))), (2, .int (nI (t))), (0, wm_r G (96))] dX10_together_73 rfl (by decide) rfl ?_
              refine wa_iinc ((nI (t + 1))) [(2, .int (nI (t + 1))), (1, .int (nI (hadX C w h t))), (3, .int (nI (hadX C w h t))), (0, wm_r G (96))] dX10_together_74 2 rfl (nI_inc _) (by decide) rfl ?_
              refine wa_goto 13 dX10_together_77 (by decide) ?_
              refine wa_sub [0, 1, 3] rfl ?_
              exact ih_13 (t + 1) _ (by omega) (by omega) (by first | exact bt_new hb (by unfold bt1; omega) | exact bt_old hb (by unfold bt1; omega))
            · refine wa_iload_n dX10_together_52 rfl 0 rfl ?_
              refine wa_cSi (x_bits (hadX C w h t) (by omega)) vX10_bits iX10_together_53 rfl rfl (Nat.le_of_ble_eq_true rfl) ⟨by decide, by decide⟩ ?_
              refine wa_iload_n dX10_together_56 rfl 2 rfl ?_
              refine wa_cSi (x_bits b (by omega)) vX10_bits iX10_together_57 rfl rfl (Nat.le_of_ble_eq_true rfl) ⟨by decide, by decide⟩ ?_
              refine wa_icmp_neN (a := pcN (hadX C w h t)) (b := pcN b) 72 dX10_together_60 (by decide) (by have := pcN_le (hadX C w h t); omega) (by have := pcN_le b; omega) (fun c_60 => ?_) (fun c_60 => ?_)
              · refine wa_iload_n dX10_together_72 rfl 2 rfl ?_
                refine wa_istore_n [(1, .int (nI (b))), (3, .int (nI (hadX C w h t))), (2, .int (nI (t))), (0, wm_r G (96))] dX10_together_73 rfl (by decide) rfl ?_
                refine wa_iinc ((nI (t + 1))) [(2, .int (nI (t + 1))), (1, .int (nI (b))), (3, .int (nI (hadX C w h t))), (0, wm_r G (96))] dX10_together_74 2 rfl (nI_inc _) (by decide) rfl ?_
                refine wa_goto 13 dX10_together_77 (by decide) ?_
                refine wa_sub [0, 1, 3] rfl ?_
                exact ih_13 (t + 1) _ (by omega) (by omega) (by first | exact bt_new hb (by unfold bt1; omega) | exact bt_old hb (by unfold bt1; omega))
              · refine wa_iload_n dX10_together_63 rfl 0 rfl ?_
                refine wa_iload_n dX10_together_64 rfl 2 rfl ?_
                refine wa_icmp_geN (a := hadX C w h t) (b := b) 72 dX10_together_65 (by decide) (by omega) (by omega) (fun c_65 => ?_) (fun c_65 => ?_)
                · refine wa_iload_n dX10_together_72 rfl 2 rfl ?_
                  refine wa_istore_n [(1, .int (nI (b))), (3, .int (nI (hadX C w h t))), (2, .int (nI (t))), (0, wm_r G (96))] dX10_together_73 rfl (by decide) rfl ?_
                  refine wa_iinc ((nI (t + 1))) [(2, .int (nI (t + 1))), (1, .int (nI (b))), (3, .int (nI (hadX C w h t))), (0, wm_r G (96))] dX10_together_74 2 rfl (nI_inc _) (by decide) rfl ?_
                  refine wa_goto 13 dX10_together_77 (by decide) ?_
                  refine wa_sub [0, 1, 3] rfl ?_
                  exact ih_13 (t + 1) _ (by omega) (by omega) (by first | exact bt_new hb (by unfold bt1; omega) | exact bt_old hb (by unfold bt1; omega))
                · refine wa_iload_n dX10_together_68 rfl 0 rfl ?_
                  refine wa_goto 73 dX10_together_69 (by decide) ?_
                  refine wa_istore_n [(1, .int (nI (hadX C w h t))), (3, .int (nI (hadX C w h t))), (2, .int (nI (t))), (0, wm_r G (96))] dX10_together_73 rfl (by decide) rfl ?_
                  refine wa_iinc ((nI (t + 1))) [(2, .int (nI (t + 1))), (1, .int (nI (hadX C w h t))), (3, .int (nI (hadX C w h t))), (0, wm_r G (96))] dX10_together_74 2 rfl (nI_inc _) (by decide) rfl ?_
                  refine wa_goto 13 dX10_together_77 (by decide) ?_
                  refine wa_sub [0, 1, 3] rfl ?_
                  exact ih_13 (t + 1) _ (by omega) (by omega) (by first | exact bt_new hb (by unfold bt1; omega) | exact bt_old hb (by unfold bt1; omega))
          exact L_41  
  exact L_13 _ 0 0 (Nat.lt_succ_self _) (Nat.zero_le _) ⟨by decide, Or.inl rfl, fun t ht => absurd ht (Nat.not_lt_zero _)⟩

theorem x_till_bad1 {G : wm_G} {M : wm_M} (r l : Int32) (hr : wIn r 6 = false) : MD G t_X10_till [wm_r G (96), .int (r), .int (l)] (M) (some (.int (-1))) (M) := by
  refine wm_met (by decide) (Nat.le_of_ble_eq_true rfl) ?_
  show WA G t_X10_till (fun v_ N_ => v_ = some (.int (-1)) ∧ N_ = M) 0 [(0, wm_r G (96)), (1, .int (r)), (2, .int (l))] [] (M)
  refine wa_iload_n dX10_till_0 rfl 1 rfl ?_
  refine wa_cSi (x_isRow r) vX10_isRow iX10_till_1 rfl rfl (Nat.le_of_ble_eq_true rfl) ⟨by decide, by decide⟩ ?_
  refine wa_eqi (y := (0)) (by rw [hr]; rfl) ?_
  refine wa_if_eq 14 dX10_till_4 (by decide) (fun c_4 => ?_) (fun c_4 => absurd c_4 (by decide))
  refine wa_iconst (-1) dX10_till_14 (by decide) ?_
  exact wa_iret dX10_till_15 rfl ⟨congrArg (fun z => some (Value.int z)) (rfl), rfl⟩

theorem x_till_bad2 {G : wm_G} {M : wm_M} (r : Nat) (hr : r < 6) (l : Int32) (hl : wIn l 4 = false) : MD G t_X10_till [wm_r G (96), .int (nI (r)), .int (l)] (M) (some (.int (-1))) (M) := by
  refine wm_met (by decide) (Nat.le_of_ble_eq_true rfl) ?_
  show WA G t_X10_till (fun v_ N_ => v_ = some (.int (-1)) ∧ N_ = M) 0 [(0, wm_r G (96)), (1, .int (nI (r))), (2, .int (l))] [] (M)
  refine wa_iload_n dX10_till_0 rfl 1 rfl ?_
  refine wa_cSi (x_isRow (nI r)) vX10_isRow iX10_till_1 rfl rfl (Nat.le_of_ble_eq_true rfl) ⟨by decide, by decide⟩ ?_
  refine wa_eqi (y := (1)) (by rw [wIn_nI (by omega), decide_eq_true (by omega)]; rfl) ?_
  refine wa_if_eq 14 dX10_till_4 (by decide) (fun c_4 => absurd c_4 (by decide)) (fun c_4 => ?_)
  refine wa_iload_n dX10_till_7 rfl 2 rfl ?_
  refine wa_cSi (x_isLaw l) vX10_isLaw iX10_till_8 rfl rfl (Nat.le_of_ble_eq_true rfl) ⟨by decide, by decide⟩ ?_
  refine wa_eqi (y := (0)) (by rw [hl]; rfl) ?_
  refine wa_if_ne 16 dX10_till_11 (by decide) (fun c_11 => absurd c_11 (by decide)) (fun c_11 => ?_)
  refine wa_iconst (-1) dX10_till_14 (by decide) ?_
  exact wa_iret dX10_till_15 rfl ⟨congrArg (fun z => some (Value.int z)) (rfl), rfl⟩

theorem x_till_no1 {G : wm_G} {M : wm_M} (r : Nat) (hr : r < 6) (l : Nat) (hl : l < 4) (hz : M.1 109 l = -1) : MD G t_X10_till [wm_r G (96), .int (nI (r)), .int (nI (l))] (M) (some (.int (-3))) (xNote M 1) := by
  refine wm_met (by decide) (Nat.le_of_ble_eq_true rfl) ?_
  show WA G t_X10_till (fun v_ N_ => v_ = some (.int (-3)) ∧ N_ = xNote M 1) 0 [(0, wm_r G (96)), (1, .int (nI (r))), (2, .int (nI (l)))] [] (M)
  refine wa_iload_n dX10_till_0 rfl 1 rfl ?_
  refine wa_cSi (x_isRow (nI r)) vX10_isRow iX10_till_1 rfl rfl (Nat.le_of_ble_eq_true rfl) ⟨by decide, by decide⟩ ?_
  refine wa_eqi (y := (1)) (by rw [wIn_nI (by omega), decide_eq_true (by omega)]; rfl) ?_
  refine wa_if_eq 14 dX10_till_4 (by decide) (fun c_4 => absurd c_4 (by decide)) (fun c_4 => ?_)
  refine wa_iload_n dX10_till_7 rfl 2 rfl ?_
  refine wa_cSi (x_isLaw (nI l)) vX10_isLaw iX10_till_8 rfl rfl (Nat.le_of_ble_eq_true rfl) ⟨by decide, by decide⟩ ?_
  refine wa_eqi (y := (1)) (by rw [wIn_nI (by omega), decide_eq_true (by omega)]; rfl) ?_
  refine wa_if_ne 16 dX10_till_11 (by decide) (fun c_11 => ?_) (fun c_11 => absurd c_11 (by decide))
  refine wa_aload_n dX10_till_16 rfl 0 rfl ?_
  refine wa_getr gX10_till_17 (rfl) rfl ?_
  refine wa_iload_n dX10_till_20 rfl 2 rfl ?_
  refine wa_ialdN (e := l) dX10_till_21 (rfl) (by omega) (by decide) ?_
  refine wa_eqi (y := (-1)) (hz) ?_
  refine wa_if_lt 34 dX10_till_22 (by decide) (fun c_22 => ?_) (fun c_22 => absurd c_22 (by decide))
  refine wa_aload_n dX10_till_34 rfl 0 rfl ?_
  refine wa_iconst (1) dX10_till_35 (by decide) ?_
  refine wa_cVi (x_meets 1 (by decide) (by decide)) vX10_meets iX10_till_36 (rfl) rfl rfl rfl (Nat.le_of_ble_eq_true rfl) ⟨by decide, by decide⟩ ?_
  exact wa_iret dX10_till_39 rfl ⟨congrArg (fun z => some (Value.int z)) (rfl), rfl⟩

theorem x_till_no2 {G : wm_G} {M : wm_M} (r : Nat) (hr : r < 6) (l : Nat) (hl : l < 4) (zl : Nat) (hzl : M.1 109 l = nI zl) (hzl9 : zl ≤ 3) (hz : M.1 98 r = -1) : MD G t_X10_till [wm_r G (96), .int (nI (r)), .int (nI (l))] (M) (some (.int (-3))) (xNote M 1) := by
  refine wm_met (by decide) (Nat.le_of_ble_eq_true rfl) ?_
  show WA G t_X10_till (fun v_ N_ => v_ = some (.int (-3)) ∧ N_ = xNote M 1) 0 [(0, wm_r G (96)), (1, .int (nI (r))), (2, .int (nI (l)))] [] (M)
  refine wa_iload_n dX10_till_0 rfl 1 rfl ?_
  refine wa_cSi (x_isRow (nI r)) vX10_isRow iX10_till_1 rfl rfl (Nat.le_of_ble_eq_true rfl) ⟨by decide, by decide⟩ ?_
  refine wa_eqi (y := (1)) (by rw [wIn_nI (by omega), decide_eq_true (by omega)]; rfl) ?_
  refine wa_if_eq 14 dX10_till_4 (by decide) (fun c_4 => absurd c_4 (by decide)) (fun c_4 => ?_)
  refine wa_iload_n dX10_till_7 rfl 2 rfl ?_
  refine wa_cSi (x_isLaw (nI l)) vX10_isLaw iX10_till_8 rfl rfl (Nat.le_of_ble_eq_true rfl) ⟨by decide, by decide⟩ ?_
  refine wa_eqi (y := (1)) (by rw [wIn_nI (by omega), decide_eq_true (by omega)]; rfl) ?_
  refine wa_if_ne 16 dX10_till_11 (by decide) (fun c_11 => ?_) (fun c_11 => absurd c_11 (by decide))
  refine wa_aload_n dX10_till_16 rfl 0 rfl ?_
  refine wa_getr gX10_till_17 (rfl) rfl ?_
  refine wa_iload_n dX10_till_20 rfl 2 rfl ?_
  refine wa_ialdN (e := l) dX10_till_21 (rfl) (by omega) (by decide) ?_
  refine wa_eqi (y := (nI (zl))) (hzl) ?_
  refine wa_if_ltN (a := zl) 34 dX10_till_22 (by decide) (by omega) (fun c_22 => absurd c_22 (by omega)) (fun c_22 => ?_)
  refine wa_aload_n dX10_till_25 rfl 0 rfl ?_
  refine wa_getr gX10_till_26 (rfl) rfl ?_
  refine wa_iload_n dX10_till_29 rfl 1 rfl ?_
  refine wa_ialdN (e := r) dX10_till_30 (rfl) (by omega) (by decide) ?_
  refine wa_eqi (y := (-1)) (hz) ?_
  refine wa_if_ge 40 dX10_till_31 (by decide) (fun c_31 => absurd c_31 (by decide)) (fun c_31 => ?_)
  refine wa_aload_n dX10_till_34 rfl 0 rfl ?_
  refine wa_iconst (1) dX10_till_35 (by decide) ?_
  refine wa_cVi (x_meets 1 (by decide) (by decide)) vX10_meets iX10_till_36 (rfl) rfl rfl rfl (Nat.le_of_ble_eq_true rfl) ⟨by decide, by decide⟩ ?_
  exact wa_iret dX10_till_39 rfl ⟨congrArg (fun z => some (Value.int z)) (rfl), rfl⟩

theorem x_till_un {G : wm_G} {M : wm_M} (C : wm_M) (w h s yr : Nat) (hX : xStn C M w h) (hW : TW C w h) (hXL : xLaw C M) (hCL : cLaw C) (hCS : cStn C (w * h)) (hN : xNow M (w * h) s yr) (hs : hadS C (w * h) s) (r : Nat) (hr : r < 6) (l : Nat) (hl : l < 4) (zl : Nat) (hzl : M.1 109 l = nI zl) (hzl9 : zl ≤ 3) (z : Nat) (hz1 : M.1 98 r = nI z) (hz9 : z ≤ 60) (f : Nat → Int32) (hf : ∀ i, i < z → M.1 99 (60 * r + i) = f i) (hg : wAll (fun i => mtB C (w * h) (f i)) z = false) : MD G t_X10_till [wm_r G (96), .int (nI (r)), .int (nI (l))] (M) (some (.int (-3))) (xNote M 3) := by
  obtain ⟨x10, x11, x12, x103, x104, x105, x106⟩ := id hX
  have hn6 := TW_n hW
  have hw3 := hW.2.2.1
  have hh2 := hW.2.2.2
  refine wm_met (by decide) (Nat.le_of_ble_eq_true rfl) ?_
  show WA G t_X10_till (fun v_ N_ => v_ = some (.int (-3)) ∧ N_ = xNote M 3) 0 [(0, wm_r G (96)), (1, .int (nI (r))), (2, .int (nI (l)))] [] (M)
  refine wa_iload_n dX10_till_0 rfl 1 rfl ?_
  refine wa_cSi (x_isRow (nI r)) vX10_isRow iX10_till_1 rfl rfl (Nat.le_of_ble_eq_true rfl) ⟨by decide, by decide⟩ ?_
  refine wa_eqi (y := (1)) (by rw [wIn_nI (by omega), decide_eq_true (by omega)]; rfl) ?_
  refine wa_if_eq 14 dX10_till_4 (by decide) (fun c_4 => absurd c_4 (by decide)) (fun c_4 => ?_)
  refine wa_iload_n dX10_till_7 rfl 2 rfl ?_
  refine wa_cSi (x_isLaw (nI l)) vX10_isLaw iX10_till_8 rfl rfl (Nat.le_of_ble_eq_true rfl) ⟨by decide, by decide⟩ ?_
  refine wa_eqi (y := (1)) (by rw [wIn_nI (by omega), decide_eq_true (by omega)]; rfl) ?_
  refine wa_if_ne 16 dX10_till_11 (by decide) (fun c_11 => ?_) (fun c_11 => absurd c_11 (by decide))
  refine wa_aload_n dX10_till_16 rfl 0 rfl ?_
  refine wa_getr gX10_till_17 (rfl) rfl ?_
  refine wa_iload_n dX10_till_20 rfl 2 rfl ?_
  refine wa_ialdN (e := l) dX10_till_21 (rfl) (by omega) (by decide) ?_
  refine wa_eqi (y := (nI (zl))) (hzl) ?_
  refine wa_if_ltN (a := zl) 34 dX10_till_22 (by decide) (by omega) (fun c_22 => absurd c_22 (by omega)) (fun c_22 => ?_)
  refine wa_aload_n dX10_till_25 rfl 0 rfl ?_
  refine wa_getr gX10_till_26 (rfl) rfl ?_
  refine wa_iload_n dX10_till_29 rfl 1 rfl ?_
  refine wa_ialdN (e := r) dX10_till_30 (rfl) (by omega) (by decide) ?_
  refine wa_eqi (y := (nI (z))) (hz1) ?_
  refine wa_if_geN (a := z) 40 dX10_till_31 (by decide) (by omega) (fun c_31 => ?_) (fun c_31 => absurd c_31 (by omega))
  refine wa_iconst (1) dX10_till_40 (by decide) ?_
  refine wa_eqi (y := (wB (wAll (fun i => mtB C (w * h) (f i)) 0))) (rfl) ?_
  refine wa_istore_n [(3, .int (wB (wAll (fun i => mtB C (w * h) (f i)) 0))), (0, wm_r G (96)), (1, .int (nI (r))), (2, .int (nI (l)))] dX10_till_41 rfl (by decide) rfl ?_
  refine wa_iconst (0) dX10_till_42 (by decide) ?_
  refine wa_istore [(4, .int (0)), (3, .int (wB (wAll (fun i => mtB C (w * h) (f i)) 0))), (0, wm_r G (96)), (1, .int (nI (r))), (2, .int (nI (l)))] dX10_till_43 (by decide) rfl ?_
  have L_45 : ∀ (n_ : Nat) (i : Nat), (z - i) < n_ → (i ≤ z) → WA G t_X10_till (fun v_ N_ => v_ = some (.int (-3)) ∧ N_ = xNote M 3) 45 [(4, .int (nI (i))), (3, .int (wB (wAll (fun i => mtB C (w * h) (f i)) i))), (0, wm_r G (96)), (1, .int (nI (r))), (2, .int (nI (l)))] [] (M) := by
    intro n_
    induction n_ with
    | zero => intro i h_; exact absurd h_ (Nat.not_lt_zero _)
    | succ n_ ih_45 =>
      intro i h_ hi
      refine wa_iload dX10_till_45 0 rfl ?_
      refine wa_aload_n dX10_till_47 rfl 2 rfl ?_
      refine wa_getr gX10_till_48 (rfl) rfl ?_
      refine wa_iload_n dX10_till_51 rfl 3 rfl ?_
      refine wa_ialdN (e := r) dX10_till_52 (rfl) (by omega) (by decide) ?_
      refine wa_eqi (y := (nI (z))) (hz1) ?_
      refine wa_icmp_geN (a := i) (b := z) 106 dX10_till_53 (by decide) (by omega) (by omega) (fun c_53 => ?_) (fun c_53 => ?_)
      · refine wa_iload_n dX10_till_106 rfl 1 rfl ?_
        refine wa_if_neB 116 dX10_till_107 (by decide) (fun c_107 => absurd c_107 (by rw [show i = z by omega, hg]; decide)) (fun c_107 => ?_)
        refine wa_aload_n dX10_till_110 rfl 2 rfl ?_
        refine wa_iconst (3) dX10_till_111 (by decide) ?_
        refine wa_cVi (x_meets 3 (by decide) (by decide)) vX10_meets iX10_till_112 (rfl) rfl rfl rfl (Nat.le_of_ble_eq_true rfl) ⟨by decide, by decide⟩ ?_
        exact wa_iret dX10_till_115 rfl ⟨congrArg (fun z => some (Value.int z)) (rfl), rfl⟩
      · refine wa_aload_n dX10_till_56 rfl 2 rfl ?_
        refine wa_iload_n dX10_till_57 rfl 3 rfl ?_
        refine wa_iload dX10_till_58 0 rfl ?_
        refine wa_cVi (x_rowAt r i hr (by omega)) vX10_rowAt iX10_till_60 (rfl) rfl rfl rfl (Nat.le_of_ble_eq_true rfl) ⟨by decide, by decide⟩ ?_
        refine wa_eqi (y := (f i)) (hf i (by omega)) ?_
        refine wa_istore [(5, .int (f i)), (4, .int (nI (i))), (3, .int (wB (wAll (fun i => mtB C (w * h) (f i)) i))), (0, wm_r G (96)), (1, .int (nI (r))), (2, .int (nI (l)))] dX10_till_63 (by decide) rfl ?_
        refine wa_iload_n dX10_till_65 rfl 2 rfl ?_
        refine wa_if_eqB 98 dX10_till_66 (by decide) (fun (c_66 : (wAll (fun i => mtB C (w * h) (f i)) i) = false) => ?_) (fun (c_66 : (wAll (fun i => mtB C (w * h) (f i)) i) = true) => ?_)
        · refine wa_iconst (0) dX10_till_98 (by decide) ?_
          refine wa_eqi (y := (wB (wAll (fun i => mtB C (w * h) (f i)) (i + 1)))) (by rw [wAll_s]; unfold mtB; first | (rw [show wAll (fun i => decide (f i = -9) || wIn (f i) (w * h) && !sFix (C.1 18 (f i).toNatClampNeg)) i = _ from c_66]; first | rfl | (rw [decide_eq_true c_73]; rfl) | (rw [decide_eq_false c_73, c_82]; rfl) | (rw [decide_eq_false c_73, c_82, hfj, nI_clamp (by omega), c_91]; rfl))) ?_
          refine wa_istore_n [(3, .int (wB (wAll (fun i => mtB C (w * h) (f i)) (i + 1)))), (5, .int (f i)), (4, .int (nI (i))), (0, wm_r G (96)), (1, .int (nI (r))), (2, .int (nI (l)))] dX10_till_99 rfl (by decide) rfl ?_
          refine wa_iinc ((nI (i + 1))) [(4, .int (nI (i + 1))), (3, .int (wB (wAll (fun i => mtB C (w * h) (f i)) (i + 1)))), (5, .int (f i)), (0, wm_r G (96)), (1, .int (nI (r))), (2, .int (nI (l)))] dX10_till_100 2 rfl (nI_inc _) (by decide) rfl ?_
          refine wa_goto 45 dX10_till_103 (by decide) ?_
          refine wa_sub [0, 1, 3, 4, 5] rfl ?_
          exact ih_45 (i + 1) (by omega) (by omega)
        · refine wa_iload dX10_till_69 0 rfl ?_
          refine wa_bipush (-9) dX10_till_71 (by decide) ?_
          refine wa_icmp_eq 94 dX10_till_73 (by decide) (fun c_73 => ?_) (fun c_73 => ?_)
          · refine wa_iconst (1) dX10_till_94 (by decide) ?_
            refine wa_goto 99 dX10_till_95 (by decide) ?_
            refine wa_eqi (y := (wB (wAll (fun i => mtB C (w * h) (f i)) (i + 1)))) (by rw [wAll_s]; unfold mtB; first | (rw [show wAll (fun i => decide (f i = -9) || wIn (f i) (w * h) && !sFix (C.1 18 (f i).toNatClampNeg)) i = _ from c_66]; first | rfl | (rw [decide_eq_true c_73]; rfl) | (rw [decide_eq_false c_73, c_82]; rfl) | (rw [decide_eq_false c_73, c_82, hfj, nI_clamp (by omega), c_91]; rfl))) ?_
            refine wa_istore_n [(3, .int (wB (wAll (fun i => mtB C (w * h) (f i)) (i + 1)))), (5, .int (f i)), (4, .int (nI (i))), (0, wm_r G (96)), (1, .int (nI (r))), (2, .int (nI (l)))] dX10_till_99 rfl (by decide) rfl ?_
            refine wa_iinc ((nI (i + 1))) [(4, .int (nI (i + 1))), (3, .int (wB (wAll (fun i => mtB C (w * h) (f i)) (i + 1)))), (5, .int (f i)), (0, wm_r G (96)), (1, .int (nI (r))), (2, .int (nI (l)))] dX10_till_100 2 rfl (nI_inc _) (by decide) rfl ?_
            refine wa_goto 45 dX10_till_103 (by decide) ?_
            refine wa_sub [0, 1, 3, 4, 5] rfl ?_
            exact ih_45 (i + 1) (by omega) (by omega)
          · refine wa_aload_n dX10_till_76 rfl 3 rfl ?_
            refine wa_iload dX10_till_77 0 rfl ?_
            refine wa_cVi (x_isStone C w h hX hW (f i)) vX10_isStone iX10_till_79 (rfl) rfl rfl rfl (Nat.le_of_ble_eq_true rfl) ⟨by decide, by decide⟩ ?_
            refine wa_if_eqB 98 dX10_till_82 (by decide) (fun (c_82 : (wIn (f i) (w * h)) = false) => ?_) (fun (c_82 : (wIn (f i) (w * h)) = true) => ?_)
            · refine wa_iconst (0) dX10_till_98 (by decide) ?_
              refine wa_eqi (y := (wB (wAll (fun i => mtB C (w * h) (f i)) (i + 1)))) (by rw [wAll_s]; unfold mtB; first | (rw [show wAll (fun i => decide (f i = -9) || wIn (f i) (w * h) && !sFix (C.1 18 (f i).toNatClampNeg)) i = _ from c_66]; first | rfl | (rw [decide_eq_true c_73]; rfl) | (rw [decide_eq_false c_73, c_82]; rfl) | (rw [decide_eq_false c_73, c_82, hfj, nI_clamp (by omega), c_91]; rfl))) ?_
              refine wa_istore_n [(3, .int (wB (wAll (fun i => mtB C (w * h) (f i)) (i + 1)))), (5, .int (f i)), (4, .int (nI (i))), (0, wm_r G (96)), (1, .int (nI (r))), (2, .int (nI (l)))] dX10_till_99 rfl (by decide) rfl ?_
              refine wa_iinc ((nI (i + 1))) [(4, .int (nI (i + 1))), (3, .int (wB (wAll (fun i => mtB C (w * h) (f i)) (i + 1)))), (5, .int (f i)), (0, wm_r G (96)), (1, .int (nI (r))), (2, .int (nI (l)))] dX10_till_100 2 rfl (nI_inc _) (by decide) rfl ?_
              refine wa_goto 45 dX10_till_103 (by decide) ?_
              refine wa_sub [0, 1, 3, 4, 5] rfl ?_
              exact ih_45 (i + 1) (by omega) (by omega)
            · obtain ⟨j, hj, hfj⟩ := wIn_ex (by omega) c_82
              refine wa_aload_n dX10_till_85 rfl 3 rfl ?_
              refine wa_iload dX10_till_86 0 rfl ?_
              refine wa_eqi (y := (nI (j))) (hfj) ?_
              refine wa_cVi (x_isFixed C w h hX hW j hj) vX10_isFixed iX10_till_88 (rfl) rfl rfl rfl (Nat.le_of_ble_eq_true rfl) ⟨by decide, by decide⟩ ?_
              refine wa_if_neB 98 dX10_till_91 (by decide) (fun (c_91 : (sFix (C.1 18 j)) = true) => ?_) (fun (c_91 : (sFix (C.1 18 j)) = false) => ?_)
              · refine wa_iconst (0) dX10_till_98 (by decide) ?_
                refine wa_eqi (y := (wB (wAll (fun i => mtB C (w * h) (f i)) (i + 1)))) (by rw [wAll_s]; unfold mtB; first | (rw [show wAll (fun i => decide (f i = -9) || wIn (f i) (w * h) && !sFix (C.1 18 (f i).toNatClampNeg)) i = _ from c_66]; first | rfl | (rw [decide_eq_true c_73]; rfl) | (rw [decide_eq_false c_73, c_82]; rfl) | (rw [decide_eq_false c_73, c_82, hfj, nI_clamp (by omega), c_91]; rfl))) ?_
                refine wa_istore_n [(3, .int (wB (wAll (fun i => mtB C (w * h) (f i)) (i + 1)))), (5, .int (f i)), (4, .int (nI (i))), (0, wm_r G (96)), (1, .int (nI (r))), (2, .int (nI (l)))] dX10_till_99 rfl (by decide) rfl ?_
                refine wa_iinc ((nI (i + 1))) [(4, .int (nI (i + 1))), (3, .int (wB (wAll (fun i => mtB C (w * h) (f i)) (i + 1)))), (5, .int (f i)), (0, wm_r G (96)), (1, .int (nI (r))), (2, .int (nI (l)))] dX10_till_100 2 rfl (nI_inc _) (by decide) rfl ?_
                refine wa_goto 45 dX10_till_103 (by decide) ?_
                refine wa_sub [0, 1, 3, 4, 5] rfl ?_
                exact ih_45 (i + 1) (by omega) (by omega)
              · refine wa_iconst (1) dX10_till_94 (by decide) ?_
                refine wa_goto 99 dX10_till_95 (by decide) ?_
                refine wa_eqi (y := (wB (wAll (fun i => mtB C (w * h) (f i)) (i + 1)))) (by rw [wAll_s]; unfold mtB; first | (rw [show wAll (fun i => decide (f i = -9) || wIn (f i) (w * h) && !sFix (C.1 18 (f i).toNatClampNeg)) i = _ from c_66]; first | rfl | (rw [decide_eq_true c_73]; rfl) | (rw [decide_eq_false c_73, c_82]; rfl) | (rw [decide_eq_false c_73, c_82, hfj, nI_clamp (by omega), c_91]; rfl))) ?_
                refine wa_istore_n [(3, .int (wB (wAll (fun i => mtB C (w * h) (f i)) (i + 1)))), (5, .int (f i)), (4, .int (nI (i))), (0, wm_r G (96)), (1, .int (nI (r))), (2, .int (nI (l)))] dX10_till_99 rfl (by decide) rfl ?_
                refine wa_iinc ((nI (i + 1))) [(4, .int (nI (i + 1))), (3, .int (wB (wAll (fun i => mtB C (w * h) (f i)) (i + 1)))), (5, .int (f i)), (0, wm_r G (96)), (1, .int (nI (r))), (2, .int (nI (l)))] dX10_till_100 2 rfl (nI_inc _) (by decide) rfl ?_
                refine wa_goto 45 dX10_till_103 (by decide) ?_
                refine wa_sub [0, 1, 3, 4, 5] rfl ?_
                exact ih_45 (i + 1) (by omega) (by omega)
  exact L_45 _ 0 (Nat.lt_succ_self _) (Nat.zero_le _)

theorem x_till_sp {G : wm_G} {M : wm_M} (C : wm_M) (w h s yr : Nat) (hX : xStn C M w h) (hW : TW C w h) (hXL : xLaw C M) (hCL : cLaw C) (hCS : cStn C (w * h)) (hN : xNow M (w * h) s yr) (hs : hadS C (w * h) s) (r : Nat) (hr : r < 6) (l : Nat) (hl : l < 4) (zl : Nat) (hzl : M.1 109 l = nI zl) (hzl9 : zl ≤ 3) (z : Nat) (hz1 : M.1 98 r = nI z) (hz9 : z ≤ 60) (f : Nat → Int32) (hf : ∀ i, i < z → M.1 99 (60 * r + i) = f i) (hg : wAll (fun i => mtB C (w * h) (f i)) z = true) (hy9 : yr ≤ 999) (hy : 999 < yr + z) : MD G t_X10_till [wm_r G (96), .int (nI (r)), .int (nI (l))] (M) (some (.int (-6))) (M) := by
  obtain ⟨x10, x11, x12, x103, x104, x105, x106⟩ := id hX
  have hn6 := TW_n hW
  have hw3 := hW.2.2.1
  have hh2 := hW.2.2.2
  refine wm_met (by decide) (Nat.le_of_ble_eq_true rfl) ?_
  show WA G t_X10_till (fun v_ N_ => v_ = some (.int (-6)) ∧ N_ = M) 0 [(0, wm_r G (96)), (1, .int (nI (r))), (2, .int (nI (l)))] [] (M)
  refine wa_iload_n dX10_till_0 rfl 1 rfl ?_
  refine wa_cSi (x_isRow (nI r)) vX10_isRow iX10_till_1 rfl rfl (Nat.le_of_ble_eq_true rfl) ⟨by decide, by decide⟩ ?_
  refine wa_eqi (y := (1)) (by rw [wIn_nI (by omega), decide_eq_true (by omega)]; rfl) ?_
  refine wa_if_eq 14 dX10_till_4 (by decide) (fun c_4 => absurd c_4 (by decide)) (fun c_4 => ?_)
  refine wa_iload_n dX10_till_7 rfl 2 rfl ?_
  refine wa_cSi (x_isLaw (nI l)) vX10_isLaw iX10_till_8 rfl rfl (Nat.le_of_ble_eq_true rfl) ⟨by decide, by decide⟩ ?_
  refine wa_eqi (y := (1)) (by rw [wIn_nI (by omega), decide_eq_true (by omega)]; rfl) ?_
  refine wa_if_ne 16 dX10_till_11 (by decide) (fun c_11 => ?_) (fun c_11 => absurd c_11 (by decide))
  refine wa_aload_n dX10_till_16 rfl 0 rfl ?_
  refine wa_getr gX10_till_17 (rfl) rfl ?_
  refine wa_iload_n dX10_till_20 rfl 2 rfl ?_
  refine wa_ialdN (e := l) dX10_till_21 (rfl) (by omega) (by decide) ?_
  refine wa_eqi (y := (nI (zl))) (hzl) ?_
  refine wa_if_ltN (a := zl) 34 dX10_till_22 (by decide) (by omega) (fun c_22 => absurd c_22 (by omega)) (fun c_22 => ?_)
  refine wa_aload_n dX10_till_25 rfl 0 rfl ?_
  refine wa_getr gX10_till_26 (rfl) rfl ?_
  refine wa_iload_n dX10_till_29 rfl 1 rfl ?_
  refine wa_ialdN (e := r) dX10_till_30 (rfl) (by omega) (by decide) ?_
  refine wa_eqi (y := (nI (z))) (hz1) ?_
  refine wa_if_geN (a := z) 40 dX10_till_31 (by decide) (by omega) (fun c_31 => ?_) (fun c_31 => absurd c_31 (by omega))
  refine wa_iconst (1) dX10_till_40 (by decide) ?_
  refine wa_eqi (y := (wB (wAll (fun i => mtB C (w * h) (f i)) 0))) (rfl) ?_
  refine wa_istore_n [(3, .int (wB (wAll (fun i => mtB C (w * h) (f i)) 0))), (0, wm_r G (96)), (1, .int (nI (r))), (2, .int (nI (l)))] dX10_till_41 rfl (by decide) rfl ?_
  refine wa_iconst (0) dX10_till_42 (by decide) ?_
  refine wa_istore [(4, .int (0)), (3, .int (wB (wAll (fun i => mtB C (w * h) (f i)) 0))), (0, wm_r G (96)), (1, .int (nI (r))), (2, .int (nI (l)))] dX10_till_43 (by decide) rfl ?_
  have L_45 : ∀ (n_ : Nat) (i : Nat), (z - i) < n_ → (i ≤ z) → WA G t_X10_till (fun v_ N_ => v_ = some (.int (-6)) ∧ N_ = M) 45 [(4, .int (nI (i))), (3, .int (wB (wAll (fun i => mtB C (w * h) (f i)) i))), (0, wm_r G (96)), (1, .int (nI (r))), (2, .int (nI (l)))] [] (M) := by
    intro n_
    induction n_ with
    | zero => intro i h_; exact absurd h_ (Nat.not_lt_zero _)
    | succ n_ ih_45 =>
      intro i h_ hi
      refine wa_iload dX10_till_45 0 rfl ?_
      refine wa_aload_n dX10_till_47 rfl 2 rfl ?_
      refine wa_getr gX10_till_48 (rfl) rfl ?_
      refine wa_iload_n dX10_till_51 rfl 3 rfl ?_
      refine wa_ialdN (e := r) dX10_till_52 (rfl) (by omega) (by decide) ?_
      refine wa_eqi (y := (nI (z))) (hz1) ?_
      refine wa_icmp_geN (a := i) (b := z) 106 dX10_till_53 (by decide) (by omega) (by omega) (fun c_53 => ?_) (fun c_53 => ?_)
      · refine wa_iload_n dX10_till_106 rfl 1 rfl ?_
        refine wa_if_neB 116 dX10_till_107 (by decide) (fun c_107 => ?_) (fun c_107 => absurd c_107 (by rw [show i = z by omega, hg]; decide))
        refine wa_aload_n dX10_till_116 rfl 2 rfl ?_
        refine wa_geti gX10_till_117 (rfl) rfl ?_
        refine wa_eqi (y := (nI (yr))) (hN.2) ?_
        refine wa_aload_n dX10_till_120 rfl 2 rfl ?_
        refine wa_getr gX10_till_121 (rfl) rfl ?_
        refine wa_iload_n dX10_till_124 rfl 3 rfl ?_
        refine wa_ialdN (e := r) dX10_till_125 (rfl) (by omega) (by decide) ?_
        refine wa_eqi (y := (nI (z))) (hz1) ?_
        refine wa_iaddN (a := yr) (b := z) dX10_till_126 ?_
        refine wa_sipush (999) dX10_till_127 (by decide) ?_
        refine wa_icmp_leN (a := yr + z) (b := 999) 136 dX10_till_130 (by decide) (by omega) (by omega) (fun c_130 => absurd c_130 (by omega)) (fun c_130 => ?_)
        refine wa_bipush (-6) dX10_till_133 (by decide) ?_
        exact wa_iret dX10_till_135 rfl ⟨congrArg (fun z => some (Value.int z)) (rfl), rfl⟩
      · refine wa_aload_n dX10_till_56 rfl 2 rfl ?_
        refine wa_iload_n dX10_till_57 rfl 3 rfl ?_
        refine wa_iload dX10_till_58 0 rfl ?_
        refine wa_cVi (x_rowAt r i hr (by omega)) vX10_rowAt iX10_till_60 (rfl) rfl rfl rfl (Nat.le_of_ble_eq_true rfl) ⟨by decide, by decide⟩ ?_
        refine wa_eqi (y := (f i)) (hf i (by omega)) ?_
        refine wa_istore [(5, .int (f i)), (4, .int (nI (i))), (3, .int (wB (wAll (fun i => mtB C (w * h) (f i)) i))), (0, wm_r G (96)), (1, .int (nI (r))), (2, .int (nI (l)))] dX10_till_63 (by decide) rfl ?_
        refine wa_iload_n dX10_till_65 rfl 2 rfl ?_
        refine wa_if_eqB 98 dX10_till_66 (by decide) (fun (c_66 : (wAll (fun i => mtB C (w * h) (f i)) i) = false) => ?_) (fun (c_66 : (wAll (fun i => mtB C (w * h) (f i)) i) = true) => ?_)
        · refine wa_iconst (0) dX10_till_98 (by decide) ?_
          refine wa_eqi (y := (wB (wAll (fun i => mtB C (w * h) (f i)) (i + 1)))) (by rw [wAll_s]; unfold mtB; first | (rw [show wAll (fun i => decide (f i = -9) || wIn (f i) (w * h) && !sFix (C.1 18 (f i).toNatClampNeg)) i = _ from c_66]; first | rfl | (rw [decide_eq_true c_73]; rfl) | (rw [decide_eq_false c_73, c_82]; rfl) | (rw [decide_eq_false c_73, c_82, hfj, nI_clamp (by omega), c_91]; rfl))) ?_
          refine wa_istore_n [(3, .int (wB (wAll (fun i => mtB C (w * h) (f i)) (i + 1)))), (5, .int (f i)), (4, .int (nI (i))), (0, wm_r G (96)), (1, .int (nI (r))), (2, .int (nI (l)))] dX10_till_99 rfl (by decide) rfl ?_
          refine wa_iinc ((nI (i + 1))) [(4, .int (nI (i + 1))), (3, .int (wB (wAll (fun i => mtB C (w * h) (f i)) (i + 1)))), (5, .int (f i)), (0, wm_r G (96)), (1, .int (nI (r))), (2, .int (nI (l)))] dX10_till_100 2 rfl (nI_inc _) (by decide) rfl ?_
          refine wa_goto 45 dX10_till_103 (by decide) ?_
          refine wa_sub [0, 1, 3, 4, 5] rfl ?_
          exact ih_45 (i + 1) (by omega) (by omega)
        · refine wa_iload dX10_till_69 0 rfl ?_
          refine wa_bipush (-9) dX10_till_71 (by decide) ?_
          refine wa_icmp_eq 94 dX10_till_73 (by decide) (fun c_73 => ?_) (fun c_73 => ?_)
          · refine wa_iconst (1) dX10_till_94 (by decide) ?_
            refine wa_goto 99 dX10_till_95 (by decide) ?_
            refine wa_eqi (y := (wB (wAll (fun i => mtB C (w * h) (f i)) (i + 1)))) (by rw [wAll_s]; unfold mtB; first | (rw [show wAll (fun i => decide (f i = -9) || wIn (f i) (w * h) && !sFix (C.1 18 (f i).toNatClampNeg)) i = _ from c_66]; first | rfl | (rw [decide_eq_true c_73]; rfl) | (rw [decide_eq_false c_73, c_82]; rfl) | (rw [decide_eq_false c_73, c_82, hfj, nI_clamp (by omega), c_91]; rfl))) ?_
            refine wa_istore_n [(3, .int (wB (wAll (fun i => mtB C (w * h) (f i)) (i + 1)))), (5, .int (f i)), (4, .int (nI (i))), (0, wm_r G (96)), (1, .int (nI (r))), (2, .int (nI (l)))] dX10_till_99 rfl (by decide) rfl ?_
            refine wa_iinc ((nI (i + 1))) [(4, .int (nI (i + 1))), (3, .int (wB (wAll (fun i => mtB C (w * h) (f i)) (i + 1)))), (5, .int (f i)), (0, wm_r G (96)), (1, .int (nI (r))), (2, .int (nI (l)))] dX10_till_100 2 rfl (nI_inc _) (by decide) rfl ?_
            refine wa_goto 45 dX10_till_103 (by decide) ?_
            refine wa_sub [0, 1, 3, 4, 5] rfl ?_
            exact ih_45 (i + 1) (by omega) (by omega)
          · refine wa_aload_n dX10_till_76 rfl 3 rfl ?_
            refine wa_iload dX10_till_77 0 rfl ?_
            refine wa_cVi (x_isStone C w h hX hW (f i)) vX10_isStone iX10_till_79 (rfl) rfl rfl rfl (Nat.le_of_ble_eq_true rfl) ⟨by decide, by decide⟩ ?_
            refine wa_if_eqB 98 dX10_till_82 (by decide) (fun (c_82 : (wIn (f i) (w * h)) = false) => ?_) (fun (c_82 : (wIn (f i) (w * h)) = true) => ?_)
            · refine wa_iconst (0) dX10_till_98 (by decide) ?_
              refine wa_eqi (y := (wB (wAll (fun i => mtB C (w * h) (f i)) (i + 1)))) (by rw [wAll_s]; unfold mtB; first | (rw [show wAll (fun i => decide (f i = -9) || wIn (f i) (w * h) && !sFix (C.1 18 (f i).toNatClampNeg)) i = _ from c_66]; first | rfl | (rw [decide_eq_true c_73]; rfl) | (rw [decide_eq_false c_73, c_82]; rfl) | (rw [decide_eq_false c_73, c_82, hfj, nI_clamp (by omega), c_91]; rfl))) ?_
              refine wa_istore_n [(3, .int (wB (wAll (fun i => mtB C (w * h) (f i)) (i + 1)))), (5, .int (f i)), (4, .int (nI (i))), (0, wm_r G (96)), (1, .int (nI (r))), (2, .int (nI (l)))] dX10_till_99 rfl (by decide) rfl ?_
              refine wa_iinc ((nI (i + 1))) [(4, .int (nI (i + 1))), (3, .int (wB (wAll (fun i => mtB C (w * h) (f i)) (i + 1)))), (5, .int (f i)), (0, wm_r G (96)), (1, .int (nI (r))), (2, .int (nI (l)))] dX10_till_100 2 rfl (nI_inc _) (by decide) rfl ?_
              refine wa_goto 45 dX10_till_103 (by decide) ?_
              refine wa_sub [0, 1, 3, 4, 5] rfl ?_
              exact ih_45 (i + 1) (by omega) (by omega)
            · obtain ⟨j, hj, hfj⟩ := wIn_ex (by omega) c_82
              refine wa_aload_n dX10_till_85 rfl 3 rfl ?_
              refine wa_iload dX10_till_86 0 rfl ?_
              refine wa_eqi (y := (nI (j))) (hfj) ?_
              refine wa_cVi (x_isFixed C w h hX hW j hj) vX10_isFixed iX10_till_88 (rfl) rfl rfl rfl (Nat.le_of_ble_eq_true rfl) ⟨by decide, by decide⟩ ?_
              refine wa_if_neB 98 dX10_till_91 (by decide) (fun (c_91 : (sFix (C.1 18 j)) = true) => ?_) (fun (c_91 : (sFix (C.1 18 j)) = false) => ?_)
              · refine wa_iconst (0) dX10_till_98 (by decide) ?_
                refine wa_eqi (y := (wB (wAll (fun i => mtB C (w * h) (f i)) (i + 1)))) (by rw [wAll_s]; unfold mtB; first | (rw [show wAll (fun i => decide (f i = -9) || wIn (f i) (w * h) && !sFix (C.1 18 (f i).toNatClampNeg)) i = _ from c_66]; first | rfl | (rw [decide_eq_true c_73]; rfl) | (rw [decide_eq_false c_73, c_82]; rfl) | (rw [decide_eq_false c_73, c_82, hfj, nI_clamp (by omega), c_91]; rfl))) ?_
                refine wa_istore_n [(3, .int (wB (wAll (fun i => mtB C (w * h) (f i)) (i + 1)))), (5, .int (f i)), (4, .int (nI (i))), (0, wm_r G (96)), (1, .int (nI (r))), (2, .int (nI (l)))] dX10_till_99 rfl (by decide) rfl ?_
                refine wa_iinc ((nI (i + 1))) [(4, .int (nI (i + 1))), (3, .int (wB (wAll (fun i => mtB C (w * h) (f i)) (i + 1)))), (5, .int (f i)), (0, wm_r G (96)), (1, .int (nI (r))), (2, .int (nI (l)))] dX10_till_100 2 rfl (nI_inc _) (by decide) rfl ?_
                refine wa_goto 45 dX10_till_103 (by decide) ?_
                refine wa_sub [0, 1, 3, 4, 5] rfl ?_
                exact ih_45 (i + 1) (by omega) (by omega)
              · refine wa_iconst (1) dX10_till_94 (by decide) ?_
                refine wa_goto 99 dX10_till_95 (by decide) ?_
                refine wa_eqi (y := (wB (wAll (fun i => mtB C (w * h) (f i)) (i + 1)))) (by rw [wAll_s]; unfold mtB; first | (rw [show wAll (fun i => decide (f i = -9) || wIn (f i) (w * h) && !sFix (C.1 18 (f i).toNatClampNeg)) i = _ from c_66]; first | rfl | (rw [decide_eq_true c_73]; rfl) | (rw [decide_eq_false c_73, c_82]; rfl) | (rw [decide_eq_false c_73, c_82, hfj, nI_clamp (by omega), c_91]; rfl))) ?_
                refine wa_istore_n [(3, .int (wB (wAll (fun i => mtB C (w * h) (f i)) (i + 1)))), (5, .int (f i)), (4, .int (nI (i))), (0, wm_r G (96)), (1, .int (nI (r))), (2, .int (nI (l)))] dX10_till_99 rfl (by decide) rfl ?_
                refine wa_iinc ((nI (i + 1))) [(4, .int (nI (i + 1))), (3, .int (wB (wAll (fun i => mtB C (w * h) (f i)) (i + 1)))), (5, .int (f i)), (0, wm_r G (96)), (1, .int (nI (r))), (2, .int (nI (l)))] dX10_till_100 2 rfl (nI_inc _) (by decide) rfl ?_
                refine wa_goto 45 dX10_till_103 (by decide) ?_
                refine wa_sub [0, 1, 3, 4, 5] rfl ?_
                exact ih_45 (i + 1) (by omega) (by omega)
  exact L_45 _ 0 (Nat.lt_succ_self _) (Nat.zero_le _)

theorem x_till_ok {G : wm_G} {M : wm_M} (C : wm_M) (w h s yr : Nat) (hX : xStn C M w h) (hW : TW C w h) (hXL : xLaw C M) (hCL : cLaw C) (hCS : cStn C (w * h)) (hN : xNow M (w * h) s yr) (hs : hadS C (w * h) s) (r : Nat) (hr : r < 6) (l : Nat) (hl : l < 4) (zl : Nat) (hzl : M.1 109 l = nI zl) (hzl9 : zl ≤ 3) (z : Nat) (hz1 : M.1 98 r = nI z) (hz9 : z ≤ 60) (f : Nat → Int32) (hf : ∀ i, i < z → M.1 99 (60 * r + i) = f i) (hg : wAll (fun i => mtB C (w * h) (f i)) z = true) (hy : yr + z ≤ 999) (p : Nat → Bool) (hp : ∀ i, i ≤ z → decide (2 ≤ lvQ C w h (rwS C f s i) l) = p i) : MA G t_X10_till [wm_r G (96), .int (nI (r)), .int (nI (l))] (M) (fun v N => ∃ i, i ≤ z ∧ FrT M N ∧ xNow N (w * h) (rwS C f s i) (yr + i) ∧ ((v = some (.int (nI i)) ∧ wFind p (z + 1) = nI i) ∨ (v = some (.int (-9)) ∧ wFind p (z + 1) = -9 ∧ i = z))) := by
  obtain ⟨x10, x11, x12, x103, x104, x105, x106⟩ := id hX
  have hn6 := TW_n hW
  have hw3 := hW.2.2.1
  have hh2 := hW.2.2.2
  have hmt : ∀ j, j < z → mtB C (w * h) (f j) = true := fun j hj => wAll_iff.mp hg j hj
  refine wm_met (by decide) (Nat.le_of_ble_eq_true rfl) ?_
  show WA G t_X10_till (fun v N => ∃ i, i ≤ z ∧ FrT M N ∧ xNow N (w * h) (rwS C f s i) (yr + i) ∧ ((v = some (.int (nI i)) ∧ wFind p (z + 1) = nI i) ∨ (v = some (.int (-9)) ∧ wFind p (z + 1) = -9 ∧ i = z))) 0 [(0, wm_r G (96)), (1, .int (nI (r))), (2, .int (nI (l)))] [] (M)
  refine wa_iload_n dX10_till_0 rfl 1 rfl ?_
  refine wa_cSi (x_isRow (nI r)) vX10_isRow iX10_till_1 rfl rfl (Nat.le_of_ble_eq_true rfl) ⟨by decide, by decide⟩ ?_
  refine wa_eqi (y := (1)) (by rw [wIn_nI (by omega), decide_eq_true (by omega)]; rfl) ?_
  refine wa_if_eq 14 dX10_till_4 (by decide) (fun c_4 => absurd c_4 (by decide)) (fun c_4 => ?_)
  refine wa_iload_n dX10_till_7 rfl 2 rfl ?_
  refine wa_cSi (x_isLaw (nI l)) vX10_isLaw iX10_till_8 rfl rfl (Nat.le_of_ble_eq_true rfl) ⟨by decide, by decide⟩ ?_
  refine wa_eqi (y := (1)) (by rw [wIn_nI (by omega), decide_eq_true (by omega)]; rfl) ?_
  refine wa_if_ne 16 dX10_till_11 (by decide) (fun c_11 => ?_) (fun c_11 => absurd c_11 (by decide))
  refine wa_aload_n dX10_till_16 rfl 0 rfl ?_
  refine wa_getr gX10_till_17 (rfl) rfl ?_
  refine wa_iload_n dX10_till_20 rfl 2 rfl ?_
  refine wa_ialdN (e := l) dX10_till_21 (rfl) (by omega) (by decide) ?_
  refine wa_eqi (y := (nI (zl))) (hzl) ?_
  refine wa_if_ltN (a := zl) 34 dX10_till_22 (by decide) (by omega) (fun c_22 => absurd c_22 (by omega)) (fun c_22 => ?_)
  refine wa_aload_n dX10_till_25 rfl 0 rfl ?_
  refine wa_getr gX10_till_26 (rfl) rfl ?_
  refine wa_iload_n dX10_till_29 rfl 1 rfl ?_
  refine wa_ialdN (e := r) dX10_till_30 (rfl) (by omega) (by decide) ?_
  refine wa_eqi (y := (nI (z))) (hz1) ?_
  refine wa_if_geN (a := z) 40 dX10_till_31 (by decide) (by omega) (fun c_31 => ?_) (fun c_31 => absurd c_31 (by omega))
  refine wa_iconst (1) dX10_till_40 (by decide) ?_
  refine wa_eqi (y := (wB (wAll (fun i => mtB C (w * h) (f i)) 0))) (rfl) ?_
  refine wa_istore_n [(3, .int (wB (wAll (fun i => mtB C (w * h) (f i)) 0))), (0, wm_r G (96)), (1, .int (nI (r))), (2, .int (nI (l)))] dX10_till_41 rfl (by decide) rfl ?_
  refine wa_iconst (0) dX10_till_42 (by decide) ?_
  refine wa_istore [(4, .int (0)), (3, .int (wB (wAll (fun i => mtB C (w * h) (f i)) 0))), (0, wm_r G (96)), (1, .int (nI (r))), (2, .int (nI (l)))] dX10_till_43 (by decide) rfl ?_
  have L_45 : ∀ (n_ : Nat) (i : Nat), (z - i) < n_ → (i ≤ z) → WA G t_X10_till (fun v N => ∃ i, i ≤ z ∧ FrT M N ∧ xNow N (w * h) (rwS C f s i) (yr + i) ∧ ((v = some (.int (nI i)) ∧ wFind p (z + 1) = nI i) ∨ (v = some (.int (-9)) ∧ wFind p (z + 1) = -9 ∧ i = z))) 45 [(4, .int (nI (i))), (3, .int (wB (wAll (fun i => mtB C (w * h) (f i)) i))), (0, wm_r G (96)), (1, .int (nI (r))), (2, .int (nI (l)))] [] (M) := by
    intro n_
    induction n_ with
    | zero => intro i h_; exact absurd h_ (Nat.not_lt_zero _)
    | succ n_ ih_45 =>
      intro i h_ hi
      refine wa_iload dX10_till_45 0 rfl ?_
      refine wa_aload_n dX10_till_47 rfl 2 rfl ?_
      refine wa_getr gX10_till_48 (rfl) rfl ?_
      refine wa_iload_n dX10_till_51 rfl 3 rfl ?_
      refine wa_ialdN (e := r) dX10_till_52 (rfl) (by omega) (by decide) ?_
      refine wa_eqi (y := (nI (z))) (hz1) ?_
      refine wa_icmp_geN (a := i) (b := z) 106 dX10_till_53 (by decide) (by omega) (by omega) (fun c_53 => ?_) (fun c_53 => ?_)
      · refine wa_iload_n dX10_till_106 rfl 1 rfl ?_
        refine wa_if_neB 116 dX10_till_107 (by decide) (fun c_107 => ?_) (fun c_107 => absurd c_107 (by rw [show i = z by omega, hg]; decide))
        refine wa_aload_n dX10_till_116 rfl 2 rfl ?_
        refine wa_geti gX10_till_117 (rfl) rfl ?_
        refine wa_eqi (y := (nI (yr))) (hN.2) ?_
        refine wa_aload_n dX10_till_120 rfl 2 rfl ?_
        refine wa_getr gX10_till_121 (rfl) rfl ?_
        refine wa_iload_n dX10_till_124 rfl 3 rfl ?_
        refine wa_ialdN (e := r) dX10_till_125 (rfl) (by omega) (by decide) ?_
        refine wa_eqi (y := (nI (z))) (hz1) ?_
        refine wa_iaddN (a := yr) (b := z) dX10_till_126 ?_
        refine wa_sipush (999) dX10_till_127 (by decide) ?_
        refine wa_icmp_leN (a := yr + z) (b := 999) 136 dX10_till_130 (by decide) (by omega) (by omega) (fun c_130 => ?_) (fun c_130 => absurd c_130 (by omega))
        refine wa_aload_n dX10_till_136 rfl 2 rfl ?_
        refine wa_getr gX10_till_137 (rfl) rfl ?_
        refine wa_iload_n dX10_till_140 rfl 3 rfl ?_
        refine wa_ialdN (e := r) dX10_till_141 (rfl) (by omega) (by decide) ?_
        refine wa_eqi (y := (nI (z))) (hz1) ?_
        refine wa_istore [(4, .int (nI (z))), (3, .int (wB (wAll (fun i => mtB C (w * h) (f i)) i))), (0, wm_r G (96)), (1, .int (nI (r))), (2, .int (nI (l)))] dX10_till_142 (by decide) rfl ?_
        refine wa_iconst (0) dX10_till_144 (by decide) ?_
        refine wa_istore [(5, .int (0)), (4, .int (nI (z))), (3, .int (wB (wAll (fun i => mtB C (w * h) (f i)) i))), (0, wm_r G (96)), (1, .int (nI (r))), (2, .int (nI (l)))] dX10_till_145 (by decide) rfl ?_
        have L_147 : ∀ (n_ : Nat) (i : Nat) (N : wm_M), (z + 1 - i) < n_ → (i ≤ z + 1) → (FrT M N) → (i ≤ z → xNow N (w * h) (rwS C f s i) (yr + i)) → (z < i → xNow N (w * h) (rwS C f s z) (yr + z)) → (∀ j, j < i → p j = false) → WA G t_X10_till (fun v N => ∃ i, i ≤ z ∧ FrT M N ∧ xNow N (w * h) (rwS C f s i) (yr + i) ∧ ((v = some (.int (nI i)) ∧ wFind p (z + 1) = nI i) ∨ (v = some (.int (-9)) ∧ wFind p (z + 1) = -9 ∧ i = z))) 147 [(5, .int (nI (i))), (4, .int (nI (z))), (0, wm_r G (96)), (1, .int (nI (r))), (2, .int (nI (l)))] [] (N) := by
          intro n_
          induction n_ with
          | zero => intro i N h_; exact absurd h_ (Nat.not_lt_zero _)
          | succ n_ ih_147 =>
            intro i N h_ hi hF hN2 hz hno
            refine wa_iload dX10_till_147 0 rfl ?_
            refine wa_iload dX10_till_149 1 rfl ?_
            refine wa_icmp_gtN (a := i) (b := z) 194 dX10_till_151 (by decide) (by omega) (by omega) (fun c_151 => ?_) (fun c_151 => ?_)
            · have hle : z < i := c_151
              refine wa_bipush (-9) dX10_till_194 (by decide) ?_
              refine wa_iret dX10_till_196 rfl ?_
              exact ⟨z, Nat.le_refl _, hF, hz hle, Or.inr ⟨rfl, wFind_none (fun j hj => hno j (by omega)), rfl⟩⟩
            · have hN2 := hN2 c_151
              have hrw := hd_rwS hn6 hs i (fun j hj => hmt j (by omega))
              have h12N : N.1 96 12 = nI (w * h) := by rw [hF.2.1 12 (by decide)]; exact x12
              have hlt : i ≤ z := c_151
              refine wa_aload_n dX10_till_154 rfl 2 rfl ?_
              refine wa_cVv (x_layNow (w * h) hn6 h12N) vX10_layNow iX10_till_155 (rfl) rfl rfl rfl (Nat.le_of_ble_eq_true rfl) ⟨by decide, by decide⟩ ?_
              refine wa_top (fun N2 e_N2 => ?_)
              have hQ2 : XQ C N2 w h (rwS C f s i) := by rw [e_N2]; exact XQ.lay (s := s) hW (hF.stn hX) (hF.law hXL) hCL hCS hN2.1
              have hF2 : FrT M N2 := by rw [e_N2]; exact hF.tr FrT.l
              have hN3 : xNow N2 (w * h) (rwS C f s i) (yr + i) := by rw [e_N2]; exact hN2.fr (wIa_n (by decide)) (by show (wIa _ 111 _).1 96 18 = _; rw [wIa_n (by decide)])
              refine wa_aload_n dX10_till_158 rfl 2 rfl ?_
              refine wa_iload_n dX10_till_159 rfl 4 rfl ?_
              refine wa_cVi (x_readBest C w h (rwS C f s i) hQ2 l hl) vX10_readBest iX10_till_160 (rfl) rfl rfl rfl (Nat.le_of_ble_eq_true rfl) ⟨by decide, by decide⟩ ?_
              have hlq := lvQ_le (C := C) (w := w) (h := h) (s := rwS C f s i) (l := l)
              refine wa_iconst (1) dX10_till_163 (by decide) ?_
              refine wa_icmp_leN (a := lvQ C w h (rwS C f s i) l) (b := 1) 170 dX10_till_164 (by decide) (by omega) (by omega) (fun c_164 => ?_) (fun c_164 => ?_)
              · have hpf : p i = false := by rw [← hp i hlt]; exact decide_eq_false (by omega)
                refine wa_iload dX10_till_170 0 rfl ?_
                refine wa_iload dX10_till_172 1 rfl ?_
                refine wa_icmp_geN (a := i) (b := z) 188 dX10_till_174 (by decide) (by omega) (by omega) (fun c_174 => ?_) (fun c_174 => ?_)
                · refine wa_iinc ((nI (i + 1))) [(5, .int (nI (i + 1))), (4, .int (nI (z))), (0, wm_r G (96)), (1, .int (nI (r))), (2, .int (nI (l)))] dX10_till_188 0 rfl (nI_inc _) (by decide) rfl ?_
                  refine wa_goto 147 dX10_till_191 (by decide) ?_
                  exact ih_147 (i + 1) _ (by omega) (by omega) (by first | exact hF2.tr hF4 | exact hF2) (by first | exact (fun _ => hN4) | exact (fun q => absurd q (by omega))) (by first | exact (fun q => absurd q (by omega)) | exact (fun _ => by rw [show z = i by omega]; exact hN3)) (fun j hj => by rcases Nat.lt_or_eq_of_le (Nat.le_of_lt_succ hj) with q | q; (exact hno j q); (subst q; exact hpf))
                · refine wa_aload_n dX10_till_177 rfl 2 rfl ?_
                  refine wa_aload_n dX10_till_178 rfl 2 rfl ?_
                  refine wa_iload_n dX10_till_179 rfl 3 rfl ?_
                  refine wa_iload dX10_till_180 0 rfl ?_
                  refine wa_cVi (x_rowAt (M := N2) r i hr (by omega)) vX10_rowAt iX10_till_182 (rfl) rfl rfl rfl (Nat.le_of_ble_eq_true rfl) ⟨by decide, by decide⟩ ?_
                  refine wa_eqi (y := (f i)) (by rw [hF2.1 99 (by decide) (by decide) (by decide)]; exact hf i (by omega)) ?_
                  refine wa_callV (x_turnsX (M := N2) C w h (hF2.stn hX) hW (rwS C f s i) (yr + i) hN3 (f i) (hmt i (by omega))) vX10_turns iX10_till_185 (rfl) rfl rfl rfl (Nat.le_of_ble_eq_true rfl) ⟨by decide, by decide⟩ (fun v_ N4 h_ => ?_)
                  obtain ⟨rfl, hF4, -, hN4⟩ := h_
                  show WA G t_X10_till (fun v N => ∃ i, i ≤ z ∧ FrT M N ∧ xNow N (w * h) (rwS C f s i) (yr + i) ∧ ((v = some (.int (nI i)) ∧ wFind p (z + 1) = nI i) ∨ (v = some (.int (-9)) ∧ wFind p (z + 1) = -9 ∧ i = z))) 188 [(5, .int (nI (i))), (4, .int (nI (z))), (0, wm_r G (96)), (1, .int (nI (r))), (2, .int (nI (l)))] [] (N4)
                  refine wa_iinc ((nI (i + 1))) [(5, .int (nI (i + 1))), (4, .int (nI (z))), (0, wm_r G (96)), (1, .int (nI (r))), (2, .int (nI (l)))] dX10_till_188 0 rfl (nI_inc _) (by decide) rfl ?_
                  refine wa_goto 147 dX10_till_191 (by decide) ?_
                  exact ih_147 (i + 1) _ (by omega) (by omega) (by first | exact hF2.tr hF4 | exact hF2) (by first | exact (fun _ => hN4) | exact (fun q => absurd q (by omega))) (by first | exact (fun q => absurd q (by omega)) | exact (fun _ => by rw [show z = i by omega]; exact hN3)) (fun j hj => by rcases Nat.lt_or_eq_of_le (Nat.le_of_lt_succ hj) with q | q; (exact hno j q); (subst q; exact hpf))
              · have hpt : p i = true := by rw [← hp i hlt]; exact decide_eq_true (by omega)
                refine wa_iload dX10_till_167 0 rfl ?_
                refine wa_iret dX10_till_169 rfl ?_
                exact ⟨i, hlt, hF2, hN3, Or.inl ⟨rfl, wFind_some (by omega) hpt hno⟩⟩
        refine wa_sub [0, 1, 3, 4, 5] rfl ?_
        exact L_147 _ 0 M (Nat.lt_succ_self _) (by omega) (FrT.rf M) (fun _ => hN) (fun q => absurd q (by omega)) (fun j hj => absurd hj (Nat.not_lt_zero _))
      · refine wa_aload_n dX10_till_56 rfl 2 rfl ?_
        refine wa_iload_n dX10_till_57 rfl 3 rfl ?_
        refine wa_iload dX10_till_58 0 rfl ?_
        refine wa_cVi (x_rowAt r i hr (by omega)) vX10_rowAt iX10_till_60 (rfl) rfl rfl rfl (Nat.le_of_ble_eq_true rfl) ⟨by decide, by decide⟩ ?_
        refine wa_eqi (y := (f i)) (hf i (by omega)) ?_
        refine wa_istore [(5, .int (f i)), (4, .int (nI (i))), (3, .int (wB (wAll (fun i => mtB C (w * h) (f i)) i))), (0, wm_r G (96)), (1, .int (nI (r))), (2, .int (nI (l)))] dX10_till_63 (by decide) rfl ?_
        refine wa_iload_n dX10_till_65 rfl 2 rfl ?_
        refine wa_if_eqB 98 dX10_till_66 (by decide) (fun (c_66 : (wAll (fun i => mtB C (w * h) (f i)) i) = false) => ?_) (fun (c_66 : (wAll (fun i => mtB C (w * h) (f i)) i) = true) => ?_)
        · refine wa_iconst (0) dX10_till_98 (by decide) ?_
          refine wa_eqi (y := (wB (wAll (fun i => mtB C (w * h) (f i)) (i + 1)))) (by rw [wAll_s]; unfold mtB; first | (rw [show wAll (fun i => decide (f i = -9) || wIn (f i) (w * h) && !sFix (C.1 18 (f i).toNatClampNeg)) i = _ from c_66]; first | rfl | (rw [decide_eq_true c_73]; rfl) | (rw [decide_eq_false c_73, c_82]; rfl) | (rw [decide_eq_false c_73, c_82, hfj, nI_clamp (by omega), c_91]; rfl))) ?_
          refine wa_istore_n [(3, .int (wB (wAll (fun i => mtB C (w * h) (f i)) (i + 1)))), (5, .int (f i)), (4, .int (nI (i))), (0, wm_r G (96)), (1, .int (nI (r))), (2, .int (nI (l)))] dX10_till_99 rfl (by decide) rfl ?_
          refine wa_iinc ((nI (i + 1))) [(4, .int (nI (i + 1))), (3, .int (wB (wAll (fun i => mtB C (w * h) (f i)) (i + 1)))), (5, .int (f i)), (0, wm_r G (96)), (1, .int (nI (r))), (2, .int (nI (l)))] dX10_till_100 2 rfl (nI_inc _) (by decide) rfl ?_
          refine wa_goto 45 dX10_till_103 (by decide) ?_
          refine wa_sub [0, 1, 3, 4, 5] rfl ?_
          exact ih_45 (i + 1) (by omega) (by omega)
        · refine wa_iload dX10_till_69 0 rfl ?_
          refine wa_bipush (-9) dX10_till_71 (by decide) ?_
          refine wa_icmp_eq 94 dX10_till_73 (by decide) (fun c_73 => ?_) (fun c_73 => ?_)
          · refine wa_iconst (1) dX10_till_94 (by decide) ?_
            refine wa_goto 99 dX10_till_95 (by decide) ?_
            refine wa_eqi (y := (wB (wAll (fun i => mtB C (w * h) (f i)) (i + 1)))) (by rw [wAll_s]; unfold mtB; first | (rw [show wAll (fun i => decide (f i = -9) || wIn (f i) (w * h) && !sFix (C.1 18 (f i).toNatClampNeg)) i = _ from c_66]; first | rfl | (rw [decide_eq_true c_73]; rfl) | (rw [decide_eq_false c_73, c_82]; rfl) | (rw [decide_eq_false c_73, c_82, hfj, nI_clamp (by omega), c_91]; rfl))) ?_
            refine wa_istore_n [(3, .int (wB (wAll (fun i => mtB C (w * h) (f i)) (i + 1)))), (5, .int (f i)), (4, .int (nI (i))), (0, wm_r G (96)), (1, .int (nI (r))), (2, .int (nI (l)))] dX10_till_99 rfl (by decide) rfl ?_
            refine wa_iinc ((nI (i + 1))) [(4, .int (nI (i + 1))), (3, .int (wB (wAll (fun i => mtB C (w * h) (f i)) (i + 1)))), (5, .int (f i)), (0, wm_r G (96)), (1, .int (nI (r))), (2, .int (nI (l)))] dX10_till_100 2 rfl (nI_inc _) (by decide) rfl ?_
            refine wa_goto 45 dX10_till_103 (by decide) ?_
            refine wa_sub [0, 1, 3, 4, 5] rfl ?_
            exact ih_45 (i + 1) (by omega) (by omega)
          · refine wa_aload_n dX10_till_76 rfl 3 rfl ?_
            refine wa_iload dX10_till_77 0 rfl ?_
            refine wa_cVi (x_isStone C w h hX hW (f i)) vX10_isStone iX10_till_79 (rfl) rfl rfl rfl (Nat.le_of_ble_eq_true rfl) ⟨by decide, by decide⟩ ?_
            refine wa_if_eqB 98 dX10_till_82 (by decide) (fun (c_82 : (wIn (f i) (w * h)) = false) => ?_) (fun (c_82 : (wIn (f i) (w * h)) = true) => ?_)
            · refine wa_iconst (0) dX10_till_98 (by decide) ?_
              refine wa_eqi (y := (wB (wAll (fun i => mtB C (w * h) (f i)) (i + 1)))) (by rw [wAll_s]; unfold mtB; first | (rw [show wAll (fun i => decide (f i = -9) || wIn (f i) (w * h) && !sFix (C.1 18 (f i).toNatClampNeg)) i = _ from c_66]; first | rfl | (rw [decide_eq_true c_73]; rfl) | (rw [decide_eq_false c_73, c_82]; rfl) | (rw [decide_eq_false c_73, c_82, hfj, nI_clamp (by omega), c_91]; rfl))) ?_
              refine wa_istore_n [(3, .int (wB (wAll (fun i => mtB C (w * h) (f i)) (i + 1)))), (5, .int (f i)), (4, .int (nI (i))), (0, wm_r G (96)), (1, .int (nI (r))), (2, .int (nI (l)))] dX10_till_99 rfl (by decide) rfl ?_
              refine wa_iinc ((nI (i + 1))) [(4, .int (nI (i + 1))), (3, .int (wB (wAll (fun i => mtB C (w * h) (f i)) (i + 1)))), (5, .int (f i)), (0, wm_r G (96)), (1, .int (nI (r))), (2, .int (nI (l)))] dX10_till_100 2 rfl (nI_inc _) (by decide) rfl ?_
              refine wa_goto 45 dX10_till_103 (by decide) ?_
              refine wa_sub [0, 1, 3, 4, 5] rfl ?_
              exact ih_45 (i + 1) (by omega) (by omega)
            · obtain ⟨j, hj, hfj⟩ := wIn_ex (by omega) c_82
              refine wa_aload_n dX10_till_85 rfl 3 rfl ?_
              refine wa_iload dX10_till_86 0 rfl ?_
              refine wa_eqi (y := (nI (j))) (hfj) ?_
              refine wa_cVi (x_isFixed C w h hX hW j hj) vX10_isFixed iX10_till_88 (rfl) rfl rfl rfl (Nat.le_of_ble_eq_true rfl) ⟨by decide, by decide⟩ ?_
              refine wa_if_neB 98 dX10_till_91 (by decide) (fun (c_91 : (sFix (C.1 18 j)) = true) => ?_) (fun (c_91 : (sFix (C.1 18 j)) = false) => ?_)
              · refine wa_iconst (0) dX10_till_98 (by decide) ?_
                refine wa_eqi (y := (wB (wAll (fun i => mtB C (w * h) (f i)) (i + 1)))) (by rw [wAll_s]; unfold mtB; first | (rw [show wAll (fun i => decide (f i = -9) || wIn (f i) (w * h) && !sFix (C.1 18 (f i).toNatClampNeg)) i = _ from c_66]; first | rfl | (rw [decide_eq_true c_73]; rfl) | (rw [decide_eq_false c_73, c_82]; rfl) | (rw [decide_eq_false c_73, c_82, hfj, nI_clamp (by omega), c_91]; rfl))) ?_
                refine wa_istore_n [(3, .int (wB (wAll (fun i => mtB C (w * h) (f i)) (i + 1)))), (5, .int (f i)), (4, .int (nI (i))), (0, wm_r G (96)), (1, .int (nI (r))), (2, .int (nI (l)))] dX10_till_99 rfl (by decide) rfl ?_
                refine wa_iinc ((nI (i + 1))) [(4, .int (nI (i + 1))), (3, .int (wB (wAll (fun i => mtB C (w * h) (f i)) (i + 1)))), (5, .int (f i)), (0, wm_r G (96)), (1, .int (nI (r))), (2, .int (nI (l)))] dX10_till_100 2 rfl (nI_inc _) (by decide) rfl ?_
                refine wa_goto 45 dX10_till_103 (by decide) ?_
                refine wa_sub [0, 1, 3, 4, 5] rfl ?_
                exact ih_45 (i + 1) (by omega) (by omega)
              · refine wa_iconst (1) dX10_till_94 (by decide) ?_
                refine wa_goto 99 dX10_till_95 (by decide) ?_
                refine wa_eqi (y := (wB (wAll (fun i => mtB C (w * h) (f i)) (i + 1)))) (by rw [wAll_s]; unfold mtB; first | (rw [show wAll (fun i => decide (f i = -9) || wIn (f i) (w * h) && !sFix (C.1 18 (f i).toNatClampNeg)) i = _ from c_66]; first | rfl | (rw [decide_eq_true c_73]; rfl) | (rw [decide_eq_false c_73, c_82]; rfl) | (rw [decide_eq_false c_73, c_82, hfj, nI_clamp (by omega), c_91]; rfl))) ?_
                refine wa_istore_n [(3, .int (wB (wAll (fun i => mtB C (w * h) (f i)) (i + 1)))), (5, .int (f i)), (4, .int (nI (i))), (0, wm_r G (96)), (1, .int (nI (r))), (2, .int (nI (l)))] dX10_till_99 rfl (by decide) rfl ?_
                refine wa_iinc ((nI (i + 1))) [(4, .int (nI (i + 1))), (3, .int (wB (wAll (fun i => mtB C (w * h) (f i)) (i + 1)))), (5, .int (f i)), (0, wm_r G (96)), (1, .int (nI (r))), (2, .int (nI (l)))] dX10_till_100 2 rfl (nI_inc _) (by decide) rfl ?_
                refine wa_goto 45 dX10_till_103 (by decide) ?_
                refine wa_sub [0, 1, 3, 4, 5] rfl ?_
                exact ih_45 (i + 1) (by omega) (by omega)
  exact L_45 _ 0 (Nat.lt_succ_self _) (Nat.zero_le _)
